/-! ===== specs_l5: laid by program (wip/p28/lay28.py) ===== -/
set_option maxHeartbeats 4000000 in
set_option maxRecDepth 100000 in
theorem c_L_plate (l : Launch) (G : GG) (a : Nat → Nat) (AD : Nat → Nat → Nat) (Y : Nat → XS) (so : Nat) (h0 : Int32) (hG : Gd Y) (hso : so < 3) : LW l yL_plate wsL_plate 5 104 G (plC G a AD Y) [.ref (a 0), .int (nI so), .int h0] (fun v ws1 => v = 1 ∧ ∃ Y2, Sp Y Y2 ∧ ws1 = plC G a AD Y2) := by
  refine LW.start (cc := cL_plate) (maxL := 7) (ret := (some .boolean)) (by decide) rfl (Nat.le_of_ble_eq_true rfl) ?_
  intro p e s m below meth c ls cx hr hlocks hK hN hP hD hS hl
  have cx : CallFix p m c cL_plate 7 s [.ref (a 0), .int (nI so), .int h0].toArray wsL_plate RL := cx
  have hl : lv_has ls 7 [(0, .ref (a 0)), (1, .int (nI so)), (2, .int h0)] := hl
  have hok := hG.ok
  have hn20 := hok.n20
  have hp16 := hok.p16
  have hv := hG.v
  obtain ⟨f, hRl⟩ := hG.r
  refine lv_aload_n cx.1 cx.2.1 dL_plate_0 rfl (lv_at hl 0 rfl) ?_
  refine lv_iconst (v := nI 5) cx.1 cx.2.1 dL_plate_1 (by decide) ?_
  refine RO.callV (As := [.int 5]) (rest := []) cx (c_X6_count l G a AD Y 5 hok) gL_plate_X6_count rfl hd_X6_count ⟨Nat.le_of_ble_eq_true rfl, Nat.le_of_ble_eq_true rfl⟩ (va_recv hK hP (ci := 5) (q0 := 0) rfl rfl) hK hN hP rfl hl.1 rfl (Nat.le_of_ble_eq_true rfl) dL_plate_2 ⟨Nat.zero_le _, Nat.zero_le _⟩ ?_
  refine nv_eqi (y := bitc (Y 5 5 6)) (ct5 Y) ?_
  refine lv_istore_n (lv' := [(3, .int (bitc (Y 5 5 6))), (0, .ref (a 0)), (1, .int (nI so)), (2, .int h0)]) cx.1 cx.2.1 dL_plate_5 rfl hl (by decide) rfl (fun ls hl => ?_)
  refine lv_iload_n cx.1 cx.2.1 dL_plate_6 rfl (lv_at hl 2 rfl) ?_
  refine nv_if_ne (a := so) (tgt := 109) cx dL_plate_7 (by decide) (by omega) (fun c_1 => ?_) (fun c_1 => ?_)
  · refine lv_iload_n cx.1 cx.2.1 dL_plate_109 rfl (lv_at hl 2 rfl) ?_
    refine lv_iconst (v := nI 1) cx.1 cx.2.1 dL_plate_110 (by decide) ?_
    refine nv_icmp_ne (a := so) (b := 1) (tgt := 181) cx dL_plate_111 (by decide) (by omega) (by omega) (fun c_2 => ?_) (fun c_2 => ?_)
    · refine lv_aload_n cx.1 cx.2.1 dL_plate_181 rfl (lv_at hl 1 rfl) ?_
      refine lv_iconst (v := nI 3) cx.1 cx.2.1 dL_plate_182 (by decide) ?_
      refine RO.callV (As := [.int 3]) (rest := []) cx (c_X6_count l G a AD Y 3 hok) gL_plate_X6_count rfl hd_X6_count ⟨Nat.le_of_ble_eq_true rfl, Nat.le_of_ble_eq_true rfl⟩ (va_recv hK hP (ci := 5) (q0 := 0) rfl rfl) hK hN hP rfl hl.1 rfl (Nat.le_of_ble_eq_true rfl) dL_plate_183 ⟨Nat.zero_le _, Nat.zero_le _⟩ ?_
      refine nv_eqi (y := Y 5 5 5) (ct3 Y) ?_
      refine lv_istore (lv' := [(4, .int (Y 5 5 5)), (3, .int (bitc (Y 5 5 6))), (0, .ref (a 0)), (1, .int (nI so)), (2, .int h0)]) cx.1 cx.2.1 dL_plate_186 hl (by decide) rfl (fun ls hl => ?_)
      refine lv_iconst (v := nI 1) cx.1 cx.2.1 dL_plate_188 (by decide) ?_
      refine lv_iload_n cx.1 cx.2.1 dL_plate_189 rfl (lv_at hl 4 rfl) ?_
      refine lv_iconst (v := nI 3) cx.1 cx.2.1 dL_plate_190 (by decide) ?_
      refine RO.callS (As := [.int h0, .int (nI 3)]) (rest := [.int (nI 1)]) cx (c_L_low l G h0 3 (by omega) (by omega)) gL_plate_L_low rfl hd_L_low ⟨Nat.le_of_ble_eq_true rfl, Nat.le_of_ble_eq_true rfl⟩ hK hN va_P.nil rfl hl.1 rfl (Nat.le_of_ble_eq_true rfl) dL_plate_191 ⟨Nat.zero_le _, Nat.zero_le _⟩ ?_
      refine nv_iadd cx (a := 1) (b := lowN h0 3) dL_plate_194 ?_
      refine lv_istore (lv' := [(5, .int (nI (1 + (lowN h0 3)))), (4, .int (Y 5 5 5)), (3, .int (bitc (Y 5 5 6))), (0, .ref (a 0)), (1, .int (nI so)), (2, .int h0)]) cx.1 cx.2.1 dL_plate_195 hl (by decide) rfl (fun ls hl => ?_)
      refine lv_aload_n cx.1 cx.2.1 dL_plate_197 rfl (lv_at hl 3 rfl) ?_
      refine lv_iload cx.1 cx.2.1 dL_plate_198 (lv_at hl 0 rfl) ?_
      refine WR.callV (As := [.int (nI (1 + (lowN h0 3)))]) (rest := []) cx (c_X6_setColumns l G a AD Y (nI (1 + (lowN h0 3))) hG.h hG.all) gL_plate_X6_setColumns rfl hd_X6_setColumns ⟨Nat.le_of_ble_eq_true rfl, Nat.le_of_ble_eq_true rfl⟩ (va_recv hK hP (ci := 5) (q0 := 0) rfl rfl) hK hN hP hD hS (fun _ h => pl_wA0 h) rfl hl.1 rfl (Nat.le_of_ble_eq_true rfl) dL_plate_200 ⟨Nat.zero_le _, Nat.zero_le _⟩ (fun H1 locs hP1 hk1 hS => ?_)
      have hP : va_P G.1 vwCl (plC G a AD ((ySet Y 1 3 5 (nI (1 + (lowN h0 3)))).2)) H1 := hP1
      have hD : va_D (wA (plC G a AD Y)) (plC G a AD ((ySet Y 1 3 5 (nI (1 + (lowN h0 3)))).2)) := pl_Dput hD
      generalize H1 = H at hP hS ⊢
      clear hP1 hk1
      have hw0 := lowN_lt h0 (m := 3) (by decide)
      obtain ⟨Y1, e1, sp1⟩ := f_col hG (v := (nI (1 + lowN h0 3))) (rg_n (a := 1) (b := 3) (by omega) (by omega) (by decide))
      rw [e1] at hP hD ⊢
      have hP : va_P G.1 vwCl (plC G a AD Y1) H := hP
      have hD : va_D (wA (plC G a AD Y)) (plC G a AD Y1) := hD
      refine nv_eqi (y := dS Y 5 (nI (1 + lowN h0 3))) rfl ?_
      refine lv_iload_n cx.1 cx.2.1 dL_plate_203 rfl (lv_at hl 2 rfl) ?_
      have jn204 : ∀ (ls : Array Slot), lv_has ls 7 [(5, .int (nI (1 + (lowN h0 3)))), (4, .int (Y 5 5 5)), (3, .int (bitc (Y 5 5 6))), (0, .ref (a 0)), (1, .int (nI so)), (2, .int h0)] → W p l e ({ frames := 5, cells := 0, slots := 0, locals := 104 } : Room) s m [.ref (a 0), .int (nI so), .int h0].toArray below meth c H locs 0 0 (MQ below (QL G (plC G a AD Y) (fun v ws1 => v = 1 ∧ ∃ Y2, Sp Y Y2 ∧ ws1 = plC G a AD Y2)) [.ref (a 0), .int (nI so), .int h0].toArray s 0 0 (wA (plC G a AD Y))) (F0 m 228 ls [.int (dS Y 5 (nI (1 + lowN h0 3))), .int (dS Y 5 (nI (1 + lowN h0 3)))]) := by
        intro  ls  hl
        refine lv_icmp_ne (x := dS Y 5 (nI (1 + lowN h0 3))) (y := dS Y 5 (nI (1 + lowN h0 3))) (tgt := 246) cx.1 cx.2.1 dL_plate_228 (by decide) (fun c_3 => ?_) (fun c_3 => ?_)
        · exact absurd rfl c_3
        · refine lv_aload_n cx.1 cx.2.1 dL_plate_231 rfl (lv_at hl 3 rfl) ?_
          refine lv_iconst (v := nI 4) cx.1 cx.2.1 dL_plate_232 (by decide) ?_
          refine WR.callV (As := [.int 4]) (rest := []) cx (c_X6_setColumns l G a AD Y1 4 sp1.1.h sp1.1.all) gL_plate_X6_setColumns rfl hd_X6_setColumns ⟨Nat.le_of_ble_eq_true rfl, Nat.le_of_ble_eq_true rfl⟩ (va_recv hK hP (ci := 5) (q0 := 0) rfl rfl) hK hN hP hD hS (fun _ h => pl_wA0 h) rfl hl.1 rfl (Nat.le_of_ble_eq_true rfl) dL_plate_233 ⟨Nat.zero_le _, Nat.zero_le _⟩ (fun H1 locs hP1 hk1 hS => ?_)
          have hP : va_P G.1 vwCl (plC G a AD ((ySet Y1 1 3 5 4).2)) H1 := hP1
          have hD : va_D (wA (plC G a AD Y)) (plC G a AD ((ySet Y1 1 3 5 4).2)) := pl_Dput hD
          generalize H1 = H at hP hS ⊢
          clear hP1 hk1
          have e2 : ySet Y1 1 3 5 4 = (-1002, Y1) := if_pos (by decide)
          rw [e2] at hP hD ⊢
          have hP : va_P G.1 vwCl (plC G a AD Y1) H := hP
          have hD : va_D (wA (plC G a AD Y)) (plC G a AD Y1) := hD
          refine nv_eqi (y := (-1002)) rfl ?_
          refine lv_sipush (v := (-1002)) cx.1 cx.2.1 dL_plate_236 (by decide) ?_
          refine lv_icmp_ne (x := (-1002)) (y := (-1002)) (tgt := 246) cx.1 cx.2.1 dL_plate_239 (by decide) (fun c_4 => ?_) (fun c_4 => ?_)
          · exact absurd rfl c_4
          · refine lv_iconst (v := nI 1) cx.1 cx.2.1 dL_plate_242 (by decide) ?_
            refine lv_goto (tgt := 247) cx.1 cx.2.1 dL_plate_243 (by decide) ?_
            exact LW.retz (x := nI 1) (ws1 := plC G a AD Y1) cx hr hlocks dL_plate_247 (by decide) ⟨rfl, _, sp1, rfl⟩ hP hS
      refine lv_if_le (x := bitc (Y 5 5 6)) (tgt := 213) cx.1 cx.2.1 dL_plate_204 (by decide) (fun c_5 => ?_) (fun c_5 => ?_)
      · have c136 := c_5
        refine lv_iload cx.1 cx.2.1 dL_plate_213 (lv_at hl 1 rfl) ?_
        refine lv_iload cx.1 cx.2.1 dL_plate_215 (lv_at hl 0 rfl) ?_
        refine lv_icmp_ne (x := Y 5 5 5) (y := nI (1 + (lowN h0 3))) (tgt := 226) cx.1 cx.2.1 dL_plate_217 (by decide) (fun c_6 => ?_) (fun c_6 => ?_)
        · refine lv_iload cx.1 cx.2.1 dL_plate_226 (lv_at hl 1 rfl) ?_
          refine nv_eqi (y := dS Y 5 (nI (1 + lowN h0 3))) (by first | exact (if_neg c_6).symm | rw [dS, if_pos c136, if_pos c_6] | rw [dS, if_pos c136, if_neg c_6]) ?_
          exact jn204  ls  hl
        · refine lv_sipush (v := (-1005)) cx.1 cx.2.1 dL_plate_220 (by decide) ?_
          refine lv_goto (tgt := 228) cx.1 cx.2.1 dL_plate_223 (by decide) ?_
          refine nv_eqi (y := dS Y 5 (nI (1 + lowN h0 3))) (by first | exact (if_neg c_6).symm | rw [dS, if_pos c136, if_pos c_6] | rw [dS, if_pos c136, if_neg c_6]) ?_
          exact jn204  ls  hl
      · refine lv_sipush (v := (-1004)) cx.1 cx.2.1 dL_plate_207 (by decide) ?_
        refine lv_goto (tgt := 228) cx.1 cx.2.1 dL_plate_210 (by decide) ?_
        refine nv_eqi (y := dS Y 5 (nI (1 + lowN h0 3))) (by first | exact (if_neg c_5).symm | rw [dS, if_pos c136, if_pos c_5] | rw [dS, if_pos c136, if_neg c_5]) ?_
        exact jn204  ls  hl
    · refine lv_aload_n cx.1 cx.2.1 dL_plate_114 rfl (lv_at hl 1 rfl) ?_
      refine lv_iconst (v := nI 2) cx.1 cx.2.1 dL_plate_115 (by decide) ?_
      refine RO.callV (As := [.int 2]) (rest := []) cx (c_X6_count l G a AD Y 2 hok) gL_plate_X6_count rfl hd_X6_count ⟨Nat.le_of_ble_eq_true rfl, Nat.le_of_ble_eq_true rfl⟩ (va_recv hK hP (ci := 5) (q0 := 0) rfl rfl) hK hN hP rfl hl.1 rfl (Nat.le_of_ble_eq_true rfl) dL_plate_116 ⟨Nat.zero_le _, Nat.zero_le _⟩ ?_
      refine nv_eqi (y := Y 5 5 4) (ct2 Y) ?_
      refine lv_istore (lv' := [(4, .int (Y 5 5 4)), (3, .int (bitc (Y 5 5 6))), (0, .ref (a 0)), (1, .int (nI so)), (2, .int h0)]) cx.1 cx.2.1 dL_plate_119 hl (by decide) rfl (fun ls hl => ?_)
      refine lv_iload_n cx.1 cx.2.1 dL_plate_121 rfl (lv_at hl 4 rfl) ?_
      refine lv_bipush (v := nI 101) cx.1 cx.2.1 dL_plate_122 (by decide) ?_
      refine RO.callS (As := [.int h0, .int (nI 101)]) (rest := []) cx (c_L_low l G h0 101 (by omega) (by omega)) gL_plate_L_low rfl hd_L_low ⟨Nat.le_of_ble_eq_true rfl, Nat.le_of_ble_eq_true rfl⟩ hK hN va_P.nil rfl hl.1 rfl (Nat.le_of_ble_eq_true rfl) dL_plate_124 ⟨Nat.zero_le _, Nat.zero_le _⟩ ?_
      refine lv_istore (lv' := [(5, .int (nI (lowN h0 101))), (4, .int (Y 5 5 4)), (3, .int (bitc (Y 5 5 6))), (0, .ref (a 0)), (1, .int (nI so)), (2, .int h0)]) cx.1 cx.2.1 dL_plate_127 hl (by decide) rfl (fun ls hl => ?_)
      refine lv_aload_n cx.1 cx.2.1 dL_plate_129 rfl (lv_at hl 3 rfl) ?_
      refine lv_iload cx.1 cx.2.1 dL_plate_130 (lv_at hl 0 rfl) ?_
      refine WR.callV (As := [.int (nI (lowN h0 101))]) (rest := []) cx (c_X6_setMargin l G a AD Y (nI (lowN h0 101)) hG.h hG.all) gL_plate_X6_setMargin rfl hd_X6_setMargin ⟨Nat.le_of_ble_eq_true rfl, Nat.le_of_ble_eq_true rfl⟩ (va_recv hK hP (ci := 5) (q0 := 0) rfl rfl) hK hN hP hD hS (fun _ h => pl_wA0 h) rfl hl.1 rfl (Nat.le_of_ble_eq_true rfl) dL_plate_132 ⟨Nat.zero_le _, Nat.zero_le _⟩ (fun H1 locs hP1 hk1 hS => ?_)
      have hP : va_P G.1 vwCl (plC G a AD ((ySet Y 0 100 4 (nI (lowN h0 101))).2)) H1 := hP1
      have hD : va_D (wA (plC G a AD Y)) (plC G a AD ((ySet Y 0 100 4 (nI (lowN h0 101))).2)) := pl_Dput hD
      generalize H1 = H at hP hS ⊢
      clear hP1 hk1
      have hw0 := lowN_lt h0 (m := 101) (by decide)
      obtain ⟨Y1, e1, sp1⟩ := f_mar hG (v := (nI (lowN h0 101))) (rg_n (a := 0) (b := 100) (by omega) (by omega) (by decide))
      rw [e1] at hP hD ⊢
      have hP : va_P G.1 vwCl (plC G a AD Y1) H := hP
      have hD : va_D (wA (plC G a AD Y)) (plC G a AD Y1) := hD
      refine nv_eqi (y := dS Y 4 (nI (lowN h0 101))) rfl ?_
      refine lv_iload_n cx.1 cx.2.1 dL_plate_135 rfl (lv_at hl 2 rfl) ?_
      have jn136 : ∀ (ls : Array Slot), lv_has ls 7 [(5, .int (nI (lowN h0 101))), (4, .int (Y 5 5 4)), (3, .int (bitc (Y 5 5 6))), (0, .ref (a 0)), (1, .int (nI so)), (2, .int h0)] → W p l e ({ frames := 5, cells := 0, slots := 0, locals := 104 } : Room) s m [.ref (a 0), .int (nI so), .int h0].toArray below meth c H locs 0 0 (MQ below (QL G (plC G a AD Y) (fun v ws1 => v = 1 ∧ ∃ Y2, Sp Y Y2 ∧ ws1 = plC G a AD Y2)) [.ref (a 0), .int (nI so), .int h0].toArray s 0 0 (wA (plC G a AD Y))) (F0 m 160 ls [.int (dS Y 4 (nI (lowN h0 101))), .int (dS Y 4 (nI (lowN h0 101)))]) := by
        intro  ls  hl
        refine lv_icmp_ne (x := dS Y 4 (nI (lowN h0 101))) (y := dS Y 4 (nI (lowN h0 101))) (tgt := 179) cx.1 cx.2.1 dL_plate_160 (by decide) (fun c_7 => ?_) (fun c_7 => ?_)
        · exact absurd rfl c_7
        · refine lv_aload_n cx.1 cx.2.1 dL_plate_163 rfl (lv_at hl 3 rfl) ?_
          refine lv_bipush (v := nI 101) cx.1 cx.2.1 dL_plate_164 (by decide) ?_
          refine WR.callV (As := [.int 101]) (rest := []) cx (c_X6_setMargin l G a AD Y1 101 sp1.1.h sp1.1.all) gL_plate_X6_setMargin rfl hd_X6_setMargin ⟨Nat.le_of_ble_eq_true rfl, Nat.le_of_ble_eq_true rfl⟩ (va_recv hK hP (ci := 5) (q0 := 0) rfl rfl) hK hN hP hD hS (fun _ h => pl_wA0 h) rfl hl.1 rfl (Nat.le_of_ble_eq_true rfl) dL_plate_166 ⟨Nat.zero_le _, Nat.zero_le _⟩ (fun H1 locs hP1 hk1 hS => ?_)
          have hP : va_P G.1 vwCl (plC G a AD ((ySet Y1 0 100 4 101).2)) H1 := hP1
          have hD : va_D (wA (plC G a AD Y)) (plC G a AD ((ySet Y1 0 100 4 101).2)) := pl_Dput hD
          generalize H1 = H at hP hS ⊢
          clear hP1 hk1
          have e2 : ySet Y1 0 100 4 101 = (-1002, Y1) := if_pos (by decide)
          rw [e2] at hP hD ⊢
          have hP : va_P G.1 vwCl (plC G a AD Y1) H := hP
          have hD : va_D (wA (plC G a AD Y)) (plC G a AD Y1) := hD
          refine nv_eqi (y := (-1002)) rfl ?_
          refine lv_sipush (v := (-1002)) cx.1 cx.2.1 dL_plate_169 (by decide) ?_
          refine lv_icmp_ne (x := (-1002)) (y := (-1002)) (tgt := 179) cx.1 cx.2.1 dL_plate_172 (by decide) (fun c_8 => ?_) (fun c_8 => ?_)
          · exact absurd rfl c_8
          · refine lv_iconst (v := nI 1) cx.1 cx.2.1 dL_plate_175 (by decide) ?_
            refine lv_goto (tgt := 180) cx.1 cx.2.1 dL_plate_176 (by decide) ?_
            exact LW.retz (x := nI 1) (ws1 := plC G a AD Y1) cx hr hlocks dL_plate_180 (by decide) ⟨rfl, _, sp1, rfl⟩ hP hS
      refine lv_if_le (x := bitc (Y 5 5 6)) (tgt := 145) cx.1 cx.2.1 dL_plate_136 (by decide) (fun c_9 => ?_) (fun c_9 => ?_)
      · have c136 := c_9
        refine lv_iload cx.1 cx.2.1 dL_plate_145 (lv_at hl 1 rfl) ?_
        refine lv_iload cx.1 cx.2.1 dL_plate_147 (lv_at hl 0 rfl) ?_
        refine lv_icmp_ne (x := Y 5 5 4) (y := nI (lowN h0 101)) (tgt := 158) cx.1 cx.2.1 dL_plate_149 (by decide) (fun c_10 => ?_) (fun c_10 => ?_)
        · refine lv_iload cx.1 cx.2.1 dL_plate_158 (lv_at hl 1 rfl) ?_
          refine nv_eqi (y := dS Y 4 (nI (lowN h0 101))) (by first | exact (if_neg c_10).symm | rw [dS, if_pos c136, if_pos c_10] | rw [dS, if_pos c136, if_neg c_10]) ?_
          exact jn136  ls  hl
        · refine lv_sipush (v := (-1005)) cx.1 cx.2.1 dL_plate_152 (by decide) ?_
          refine lv_goto (tgt := 160) cx.1 cx.2.1 dL_plate_155 (by decide) ?_
          refine nv_eqi (y := dS Y 4 (nI (lowN h0 101))) (by first | exact (if_neg c_10).symm | rw [dS, if_pos c136, if_pos c_10] | rw [dS, if_pos c136, if_neg c_10]) ?_
          exact jn136  ls  hl
      · refine lv_sipush (v := (-1004)) cx.1 cx.2.1 dL_plate_139 (by decide) ?_
        refine lv_goto (tgt := 160) cx.1 cx.2.1 dL_plate_142 (by decide) ?_
        refine nv_eqi (y := dS Y 4 (nI (lowN h0 101))) (by first | exact (if_neg c_9).symm | rw [dS, if_pos c136, if_pos c_9] | rw [dS, if_pos c136, if_neg c_9]) ?_
        exact jn136  ls  hl
  · refine lv_sipush (v := nI 300) cx.1 cx.2.1 dL_plate_10 (by decide) ?_
    refine lv_iload_n cx.1 cx.2.1 dL_plate_13 rfl (lv_at hl 3 rfl) ?_
    refine lv_sipush (v := nI 5701) cx.1 cx.2.1 dL_plate_14 (by decide) ?_
    refine RO.callS (As := [.int h0, .int (nI 5701)]) (rest := [.int (nI 300)]) cx (c_L_low l G h0 5701 (by omega) (by omega)) gL_plate_L_low rfl hd_L_low ⟨Nat.le_of_ble_eq_true rfl, Nat.le_of_ble_eq_true rfl⟩ hK hN va_P.nil rfl hl.1 rfl (Nat.le_of_ble_eq_true rfl) dL_plate_17 ⟨Nat.zero_le _, Nat.zero_le _⟩ ?_
    refine nv_iadd cx (a := 300) (b := lowN h0 5701) dL_plate_20 ?_
    refine lv_istore (lv' := [(4, .int (nI (300 + (lowN h0 5701)))), (3, .int (bitc (Y 5 5 6))), (0, .ref (a 0)), (1, .int (nI so)), (2, .int h0)]) cx.1 cx.2.1 dL_plate_21 hl (by decide) rfl (fun ls hl => ?_)
    refine lv_bipush (v := nI 100) cx.1 cx.2.1 dL_plate_23 (by decide) ?_
    refine lv_iload_n cx.1 cx.2.1 dL_plate_25 rfl (lv_at hl 4 rfl) ?_
    refine lv_iconst (v := nI 4) cx.1 cx.2.1 dL_plate_26 (by decide) ?_
    refine lv_ishr (x := h0) (y := 4) cx.1 cx.2.1 dL_plate_27 ?_
    refine lv_sipush (v := nI 2901) cx.1 cx.2.1 dL_plate_28 (by decide) ?_
    refine RO.callS (As := [.int (h0 >>> (4 &&& 31)), .int (nI 2901)]) (rest := [.int (nI 100)]) cx (c_L_low l G (h0 >>> (4 &&& 31)) 2901 (by omega) (by omega)) gL_plate_L_low rfl hd_L_low ⟨Nat.le_of_ble_eq_true rfl, Nat.le_of_ble_eq_true rfl⟩ hK hN va_P.nil rfl hl.1 rfl (Nat.le_of_ble_eq_true rfl) dL_plate_31 ⟨Nat.zero_le _, Nat.zero_le _⟩ ?_
    refine nv_iadd cx (a := 100) (b := lowN (h0 >>> (4 &&& 31)) 2901) dL_plate_34 ?_
    refine lv_istore (lv' := [(5, .int (nI (100 + (lowN (h0 >>> (4 &&& 31)) 2901)))), (4, .int (nI (300 + (lowN h0 5701)))), (3, .int (bitc (Y 5 5 6))), (0, .ref (a 0)), (1, .int (nI so)), (2, .int h0)]) cx.1 cx.2.1 dL_plate_35 hl (by decide) rfl (fun ls hl => ?_)
    refine lv_aload_n cx.1 cx.2.1 dL_plate_37 rfl (lv_at hl 3 rfl) ?_
    refine lv_bipush (v := nI 8) cx.1 cx.2.1 dL_plate_38 (by decide) ?_
    refine RO.callV (As := [.int 8]) (rest := []) cx (c_X6_count l G a AD Y 8 hok) gL_plate_X6_count rfl hd_X6_count ⟨Nat.le_of_ble_eq_true rfl, Nat.le_of_ble_eq_true rfl⟩ (va_recv hK hP (ci := 5) (q0 := 0) rfl rfl) hK hN hP rfl hl.1 rfl (Nat.le_of_ble_eq_true rfl) dL_plate_40 ⟨Nat.zero_le _, Nat.zero_le _⟩ ?_
    refine nv_eqi (y := Y 5 5 9) (ct8 Y) ?_
    refine lv_istore (lv' := [(6, .int (Y 5 5 9)), (5, .int (nI (100 + (lowN (h0 >>> (4 &&& 31)) 2901)))), (4, .int (nI (300 + (lowN h0 5701)))), (3, .int (bitc (Y 5 5 6))), (0, .ref (a 0)), (1, .int (nI so)), (2, .int h0)]) cx.1 cx.2.1 dL_plate_43 hl (by decide) rfl (fun ls hl => ?_)
    refine lv_aload_n cx.1 cx.2.1 dL_plate_45 rfl (lv_at hl 4 rfl) ?_
    refine lv_iload cx.1 cx.2.1 dL_plate_46 (lv_at hl 2 rfl) ?_
    refine lv_iload cx.1 cx.2.1 dL_plate_48 (lv_at hl 1 rfl) ?_
    refine WR.callV (As := [.int (nI (300 + (lowN h0 5701))), .int (nI (100 + (lowN (h0 >>> (4 &&& 31)) 2901)))]) (rest := []) cx (c_X6_recut l G a AD Y (nI (300 + (lowN h0 5701))) (nI (100 + (lowN (h0 >>> (4 &&& 31)) 2901))) hG.h hG.all) gL_plate_X6_recut rfl hd_X6_recut ⟨Nat.le_of_ble_eq_true rfl, Nat.le_of_ble_eq_true rfl⟩ (va_recv hK hP (ci := 5) (q0 := 0) rfl rfl) hK hN hP hD hS (fun _ h => pl_wA0 h) rfl hl.1 rfl (Nat.le_of_ble_eq_true rfl) dL_plate_50 ⟨Nat.zero_le _, Nat.zero_le _⟩ (fun H1 locs hP1 hk1 hS => ?_)
    have hP : va_P G.1 vwCl (plC G a AD ((yRecut Y (nI (300 + (lowN h0 5701))) (nI (100 + (lowN (h0 >>> (4 &&& 31)) 2901)))).2)) H1 := hP1
    have hD : va_D (wA (plC G a AD Y)) (plC G a AD ((yRecut Y (nI (300 + (lowN h0 5701))) (nI (100 + (lowN (h0 >>> (4 &&& 31)) 2901)))).2)) := pl_Dput hD
    generalize H1 = H at hP hS ⊢
    clear hP1 hk1
    have hw0 := lowN_lt h0 (m := 5701) (by decide)
    have hh0 := lowN_lt (h0 >>> (4 &&& 31)) (m := 2901) (by decide)
    obtain ⟨Y1, e1, sp1, f1, f2, f3⟩ := f_recut hG (w := (nI (300 + lowN h0 5701))) (hh := (nI (100 + lowN (h0 >>> (4 &&& 31)) 2901))) (isPl_n (by omega) (by omega) (by omega) (by omega))
    rw [e1] at hP hD ⊢
    have hP : va_P G.1 vwCl (plC G a AD Y1) H := hP
    have hD : va_D (wA (plC G a AD Y)) (plC G a AD Y1) := hD
    refine nv_eqi (y := bitc (Y 5 5 6)) rfl ?_
    refine lv_iload_n cx.1 cx.2.1 dL_plate_53 rfl (lv_at hl 3 rfl) ?_
    refine lv_icmp_ne (x := bitc (Y 5 5 6)) (y := bitc (Y 5 5 6)) (tgt := 107) cx.1 cx.2.1 dL_plate_54 (by decide) (fun c_11 => ?_) (fun c_11 => ?_)
    · exact absurd rfl c_11
    · refine lv_aload_n cx.1 cx.2.1 dL_plate_57 rfl (lv_at hl 4 rfl) ?_
      refine lv_iconst (v := nI 5) cx.1 cx.2.1 dL_plate_58 (by decide) ?_
      refine RO.callV (As := [.int 5]) (rest := []) cx (c_X6_count l G a AD Y1 5 sp1.1.ok) gL_plate_X6_count rfl hd_X6_count ⟨Nat.le_of_ble_eq_true rfl, Nat.le_of_ble_eq_true rfl⟩ (va_recv hK hP (ci := 5) (q0 := 0) rfl rfl) hK hN hP rfl hl.1 rfl (Nat.le_of_ble_eq_true rfl) dL_plate_59 ⟨Nat.zero_le _, Nat.zero_le _⟩ ?_
      refine nv_eqi (y := bitc (Y1 5 5 6)) (ct5 Y1) ?_
      refine lv_if_ne (x := bitc (Y1 5 5 6)) (tgt := 107) cx.1 cx.2.1 dL_plate_62 (by decide) (fun c_12 => ?_) (fun c_12 => ?_)
      · exact absurd f1 c_12
      · refine lv_aload_n cx.1 cx.2.1 dL_plate_65 rfl (lv_at hl 4 rfl) ?_
        refine lv_bipush (v := nI 8) cx.1 cx.2.1 dL_plate_66 (by decide) ?_
        refine RO.callV (As := [.int 8]) (rest := []) cx (c_X6_count l G a AD Y1 8 sp1.1.ok) gL_plate_X6_count rfl hd_X6_count ⟨Nat.le_of_ble_eq_true rfl, Nat.le_of_ble_eq_true rfl⟩ (va_recv hK hP (ci := 5) (q0 := 0) rfl rfl) hK hN hP rfl hl.1 rfl (Nat.le_of_ble_eq_true rfl) dL_plate_68 ⟨Nat.zero_le _, Nat.zero_le _⟩ ?_
        refine nv_eqi (y := Y1 5 5 9) (ct8 Y1) ?_
        refine lv_iload cx.1 cx.2.1 dL_plate_71 (lv_at hl 0 rfl) ?_
        refine lv_iload_n cx.1 cx.2.1 dL_plate_73 rfl (lv_at hl 3 rfl) ?_
        refine lv_iadd (x := Y 5 5 9) (y := bitc (Y 5 5 6)) cx.1 cx.2.1 dL_plate_74 ?_
        refine lv_icmp_ne (x := Y1 5 5 9) (y := (Y 5 5 9) + (bitc (Y 5 5 6))) (tgt := 107) cx.1 cx.2.1 dL_plate_75 (by decide) (fun c_13 => ?_) (fun c_13 => ?_)
        · exact absurd f2 c_13
        · refine lv_aload_n cx.1 cx.2.1 dL_plate_78 rfl (lv_at hl 4 rfl) ?_
          refine lv_iconst (v := nI 0) cx.1 cx.2.1 dL_plate_79 (by decide) ?_
          refine RO.callV (As := [.int 0]) (rest := []) cx (c_X6_count l G a AD Y1 0 sp1.1.ok) gL_plate_X6_count rfl hd_X6_count ⟨Nat.le_of_ble_eq_true rfl, Nat.le_of_ble_eq_true rfl⟩ (va_recv hK hP (ci := 5) (q0 := 0) rfl rfl) hK hN hP rfl hl.1 rfl (Nat.le_of_ble_eq_true rfl) dL_plate_80 ⟨Nat.zero_le _, Nat.zero_le _⟩ ?_
          refine nv_eqi (y := Y1 5 5 2) (ct0 Y1) ?_
          refine lv_iload cx.1 cx.2.1 dL_plate_83 (lv_at hl 2 rfl) ?_
          refine lv_icmp_ne (x := Y1 5 5 2) (y := nI (300 + (lowN h0 5701))) (tgt := 107) cx.1 cx.2.1 dL_plate_85 (by decide) (fun c_14 => ?_) (fun c_14 => ?_)
          · exact absurd f3 c_14
          · refine lv_aload_n cx.1 cx.2.1 dL_plate_88 rfl (lv_at hl 4 rfl) ?_
            refine lv_sipush (v := nI 299) cx.1 cx.2.1 dL_plate_89 (by decide) ?_
            refine lv_bipush (v := nI 100) cx.1 cx.2.1 dL_plate_92 (by decide) ?_
            refine WR.callV (As := [.int 299, .int 100]) (rest := []) cx (c_X6_recut l G a AD Y1 299 100 sp1.1.h sp1.1.all) gL_plate_X6_recut rfl hd_X6_recut ⟨Nat.le_of_ble_eq_true rfl, Nat.le_of_ble_eq_true rfl⟩ (va_recv hK hP (ci := 5) (q0 := 0) rfl rfl) hK hN hP hD hS (fun _ h => pl_wA0 h) rfl hl.1 rfl (Nat.le_of_ble_eq_true rfl) dL_plate_94 ⟨Nat.zero_le _, Nat.zero_le _⟩ (fun H1 locs hP1 hk1 hS => ?_)
            have hP : va_P G.1 vwCl (plC G a AD ((yRecut Y1 299 100).2)) H1 := hP1
            have hD : va_D (wA (plC G a AD Y)) (plC G a AD ((yRecut Y1 299 100).2)) := pl_Dput hD
            generalize H1 = H at hP hS ⊢
            clear hP1 hk1
            have e2 : yRecut Y1 299 100 = (-1002, Y1) := if_neg (by decide)
            rw [e2] at hP hD ⊢
            have hP : va_P G.1 vwCl (plC G a AD Y1) H := hP
            have hD : va_D (wA (plC G a AD Y)) (plC G a AD Y1) := hD
            refine nv_eqi (y := (-1002)) rfl ?_
            refine lv_sipush (v := (-1002)) cx.1 cx.2.1 dL_plate_97 (by decide) ?_
            refine lv_icmp_ne (x := (-1002)) (y := (-1002)) (tgt := 107) cx.1 cx.2.1 dL_plate_100 (by decide) (fun c_15 => ?_) (fun c_15 => ?_)
            · exact absurd rfl c_15
            · refine lv_iconst (v := nI 1) cx.1 cx.2.1 dL_plate_103 (by decide) ?_
              refine lv_goto (tgt := 108) cx.1 cx.2.1 dL_plate_104 (by decide) ?_
              exact LW.retz (x := nI 1) (ws1 := plC G a AD Y1) cx hr hlocks dL_plate_108 (by decide) ⟨rfl, _, sp1, rfl⟩ hP hS

set_option maxHeartbeats 4000000 in
set_option maxRecDepth 100000 in
theorem c_L_adjusts (l : Launch) (G : GG) (a : Nat → Nat) (AD : Nat → Nat → Nat) (Y : Nat → XS) (g0 : Int32) (h0 : Int32) (hG : Gd Y) : LW l yL_adjusts wsL_adjusts 7 168 G (plC G a AD Y) [.ref (a 0), .int g0, .int h0] (fun v ws1 => v = 1 ∧ ∃ Y2, Sp Y Y2 ∧ ws1 = plC G a AD Y2) := by
  refine LW.start (cc := cL_adjusts) (maxL := 11) (ret := (some .boolean)) (by decide) rfl (Nat.le_of_ble_eq_true rfl) ?_
  intro p e s m below meth c ls cx hr hlocks hK hN hP hD hS hl
  have cx : CallFix p m c cL_adjusts 11 s [.ref (a 0), .int g0, .int h0].toArray wsL_adjusts RL := cx
  have hl : lv_has ls 11 [(0, .ref (a 0)), (1, .int g0), (2, .int h0)] := hl
  have hok := hG.ok
  have hn20 := hok.n20
  have hp16 := hok.p16
  have hv := hG.v
  obtain ⟨f, hRl⟩ := hG.r
  have hg5 := lowN_lt g0 (m := 5) (by decide)
  refine lv_bipush (v := nI 65) cx.1 cx.2.1 dL_adjusts_0 (by decide) ?_
  refine lv_iload_n cx.1 cx.2.1 dL_adjusts_2 rfl (lv_at hl 1 rfl) ?_
  refine lv_iconst (v := nI 5) cx.1 cx.2.1 dL_adjusts_3 (by decide) ?_
  refine RO.callS (As := [.int g0, .int (nI 5)]) (rest := [.int (nI 65)]) cx (c_L_low l G g0 5 (by omega) (by omega)) gL_adjusts_L_low rfl hd_L_low ⟨Nat.le_of_ble_eq_true rfl, Nat.le_of_ble_eq_true rfl⟩ hK hN va_P.nil rfl hl.1 rfl (Nat.le_of_ble_eq_true rfl) dL_adjusts_4 ⟨Nat.zero_le _, Nat.zero_le _⟩ ?_
  refine nv_iadd cx (a := 65) (b := lowN g0 5) dL_adjusts_7 ?_
  refine lv_i2c (x := nI (65 + (lowN g0 5))) (v := i2c (nI (65 + (lowN g0 5)))) cx.1 cx.2.1 dL_adjusts_8 rfl ?_
  refine nv_eqi (y := nI (65 + lowN g0 5)) (i2c_nn (by omega)) ?_
  refine lv_istore_n (lv' := [(3, .int (nI (65 + lowN g0 5))), (0, .ref (a 0)), (1, .int g0), (2, .int h0)]) cx.1 cx.2.1 dL_adjusts_9 rfl hl (by decide) rfl (fun ls hl => ?_)
  refine lv_iload_n cx.1 cx.2.1 dL_adjusts_10 rfl (lv_at hl 2 rfl) ?_
  refine lv_bipush (v := nI 96) cx.1 cx.2.1 dL_adjusts_11 (by decide) ?_
  refine lv_iand (x := g0) (y := 96) cx.1 cx.2.1 dL_adjusts_13 ?_
  have jn14 : ∀ (rt : Nat) (ls : Array Slot), rt = 46 ∨ (65 ≤ rt ∧ rt ≤ 69) → lv_has ls 11 [(3, .int (nI (65 + lowN g0 5))), (0, .ref (a 0)), (1, .int g0), (2, .int h0)] → W p l e ({ frames := 7, cells := 0, slots := 0, locals := 168 } : Room) s m [.ref (a 0), .int g0, .int h0].toArray below meth c s.heap [] 0 0 (MQ below (QL G (plC G a AD Y) (fun v ws1 => v = 1 ∧ ∃ Y2, Sp Y Y2 ∧ ws1 = plC G a AD Y2)) [.ref (a 0), .int g0, .int h0].toArray s 0 0 (wA (plC G a AD Y))) (F0 m 34 ls [.int (nI rt)]) := by
    intro rt ls hrt hl
    refine lv_istore (lv' := [(4, .int (nI rt)), (3, .int (nI (65 + lowN g0 5))), (0, .ref (a 0)), (1, .int g0), (2, .int h0)]) cx.1 cx.2.1 dL_adjusts_34 hl (by decide) rfl (fun ls hl => ?_)
    refine lv_iload_n cx.1 cx.2.1 dL_adjusts_36 rfl (lv_at hl 4 rfl) ?_
    refine lv_bipush (v := nI 7) cx.1 cx.2.1 dL_adjusts_37 (by decide) ?_
    refine RO.callS (As := [.int h0, .int (nI 7)]) (rest := []) cx (c_L_low l G h0 7 (by omega) (by omega)) gL_adjusts_L_low rfl hd_L_low ⟨Nat.le_of_ble_eq_true rfl, Nat.le_of_ble_eq_true rfl⟩ hK hN va_P.nil rfl hl.1 rfl (Nat.le_of_ble_eq_true rfl) dL_adjusts_39 ⟨Nat.zero_le _, Nat.zero_le _⟩ ?_
    refine lv_iconst (v := nI 3) cx.1 cx.2.1 dL_adjusts_42 (by decide) ?_
    refine lv_isub (x := nI (lowN h0 7)) (y := 3) cx.1 cx.2.1 dL_adjusts_43 ?_
    refine lv_istore (lv' := [(5, .int ((nI (lowN h0 7)) - 3)), (4, .int (nI rt)), (3, .int (nI (65 + lowN g0 5))), (0, .ref (a 0)), (1, .int g0), (2, .int h0)]) cx.1 cx.2.1 dL_adjusts_44 hl (by decide) rfl (fun ls hl => ?_)
    refine lv_aload_n cx.1 cx.2.1 dL_adjusts_46 rfl (lv_at hl 3 rfl) ?_
    refine lv_iload_n cx.1 cx.2.1 dL_adjusts_47 rfl (lv_at hl 2 rfl) ?_
    refine lv_iload cx.1 cx.2.1 dL_adjusts_48 (lv_at hl 1 rfl) ?_
    refine RO.callV (As := [.int (nI (65 + lowN g0 5)), .int (nI rt)]) (rest := []) cx (c_X6_adjustment l G a AD Y (nI (65 + lowN g0 5)) (nI rt) hok) gL_adjusts_X6_adjustment rfl hd_X6_adjustment ⟨Nat.le_of_ble_eq_true rfl, Nat.le_of_ble_eq_true rfl⟩ (va_recv hK hP (ci := 5) (q0 := 0) rfl rfl) hK hN hP rfl hl.1 rfl (Nat.le_of_ble_eq_true rfl) dL_adjusts_50 ⟨Nat.zero_le _, Nat.zero_le _⟩ ?_
    refine nv_eqi (y := xAdj (Y 5) (nI (65 + lowN g0 5)) (nI rt)) (ad_n (Or.inr ⟨by omega, by omega⟩) hrt) ?_
    refine lv_istore (lv' := [(6, .int (xAdj (Y 5) (nI (65 + lowN g0 5)) (nI rt))), (5, .int ((nI (lowN h0 7)) - 3)), (4, .int (nI rt)), (3, .int (nI (65 + lowN g0 5))), (0, .ref (a 0)), (1, .int g0), (2, .int h0)]) cx.1 cx.2.1 dL_adjusts_53 hl (by decide) rfl (fun ls hl => ?_)
    refine lv_aload_n cx.1 cx.2.1 dL_adjusts_55 rfl (lv_at hl 4 rfl) ?_
    refine lv_bipush (v := nI 9) cx.1 cx.2.1 dL_adjusts_56 (by decide) ?_
    refine RO.callV (As := [.int 9]) (rest := []) cx (c_X6_count l G a AD Y 9 hok) gL_adjusts_X6_count rfl hd_X6_count ⟨Nat.le_of_ble_eq_true rfl, Nat.le_of_ble_eq_true rfl⟩ (va_recv hK hP (ci := 5) (q0 := 0) rfl rfl) hK hN hP rfl hl.1 rfl (Nat.le_of_ble_eq_true rfl) dL_adjusts_58 ⟨Nat.zero_le _, Nat.zero_le _⟩ ?_
    refine nv_eqi (y := nI (xp (Y 5))) (ct9 hok) ?_
    refine lv_istore (lv' := [(7, .int (nI (xp (Y 5)))), (6, .int (xAdj (Y 5) (nI (65 + lowN g0 5)) (nI rt))), (5, .int ((nI (lowN h0 7)) - 3)), (4, .int (nI rt)), (3, .int (nI (65 + lowN g0 5))), (0, .ref (a 0)), (1, .int g0), (2, .int h0)]) cx.1 cx.2.1 dL_adjusts_61 hl (by decide) rfl (fun ls hl => ?_)
    refine lv_iconst (v := nI 0) cx.1 cx.2.1 dL_adjusts_63 (by decide) ?_
    refine lv_istore (lv' := [(8, .int (nI 0)), (7, .int (nI (xp (Y 5)))), (6, .int (xAdj (Y 5) (nI (65 + lowN g0 5)) (nI rt))), (5, .int ((nI (lowN h0 7)) - 3)), (4, .int (nI rt)), (3, .int (nI (65 + lowN g0 5))), (0, .ref (a 0)), (1, .int g0), (2, .int h0)]) cx.1 cx.2.1 dL_adjusts_64 hl (by decide) rfl (fun ls hl => ?_)
    refine lv_iconst (v := nI 0) cx.1 cx.2.1 dL_adjusts_66 (by decide) ?_
    refine lv_istore (lv' := [(9, .int (nI 0)), (8, .int (nI 0)), (7, .int (nI (xp (Y 5)))), (6, .int (xAdj (Y 5) (nI (65 + lowN g0 5)) (nI rt))), (5, .int ((nI (lowN h0 7)) - 3)), (4, .int (nI rt)), (3, .int (nI (65 + lowN g0 5))), (0, .ref (a 0)), (1, .int g0), (2, .int h0)]) cx.1 cx.2.1 dL_adjusts_67 hl (by decide) rfl (fun ls hl => ?_)
    have lp69 : ∀ (r : Nat) (k : Nat) (hr9 : xn (Y 5) - k < r) (hi : k ≤ xn (Y 5)) (ls : Array Slot), lv_has ls 11 [(0, .ref (a 0)), (1, .int g0), (2, .int h0), (3, .int (nI (65 + lowN g0 5))), (4, .int (nI rt)), (5, .int ((nI (lowN h0 7)) - 3)), (6, .int (xAdj (Y 5) (nI (65 + lowN g0 5)) (nI rt))), (7, .int (nI (xp (Y 5)))), (8, .int (b2i (ckN (Y 5) (nI (65 + lowN g0 5)) (nI rt) k))), (9, .int (nI k))] → W p l e ({ frames := 7, cells := 0, slots := 0, locals := 168 } : Room) s m [.ref (a 0), .int g0, .int h0].toArray below meth c s.heap [] 0 0 (MQ below (QL G (plC G a AD Y) (fun v ws1 => v = 1 ∧ ∃ Y2, Sp Y Y2 ∧ ws1 = plC G a AD Y2)) [.ref (a 0), .int g0, .int h0].toArray s 0 0 (wA (plC G a AD Y))) (F0 m 69 ls []) := by
      intro r
      induction r with
      | zero => intro k hr9; exact absurd hr9 (Nat.not_lt_zero _)
      | succ r ih69 =>
        intro k hr9 hi ls hl
        refine lv_iload cx.1 cx.2.1 dL_adjusts_69 (lv_at hl 9 rfl) ?_
        refine lv_aload_n cx.1 cx.2.1 dL_adjusts_71 rfl (lv_at hl 0 rfl) ?_
        refine lv_iconst (v := nI 4) cx.1 cx.2.1 dL_adjusts_72 (by decide) ?_
        refine RO.callV (As := [.int 4]) (rest := [.int (nI k)]) cx (c_X6_count l G a AD Y 4 hok) gL_adjusts_X6_count rfl hd_X6_count ⟨Nat.le_of_ble_eq_true rfl, Nat.le_of_ble_eq_true rfl⟩ (va_recv hK hP (ci := 5) (q0 := 0) rfl rfl) hK hN hP rfl hl.1 rfl (Nat.le_of_ble_eq_true rfl) dL_adjusts_73 ⟨Nat.zero_le _, Nat.zero_le _⟩ ?_
        refine nv_eqi (y := nI (xn (Y 5))) (ct4 hok) ?_
        refine nv_icmp_ge (a := k) (b := xn (Y 5)) (tgt := 158) cx dL_adjusts_76 (by decide) (by omega) (by omega) (fun c_1 => ?_) (fun c_1 => ?_)
        · have ek : k = xn (Y 5) := by omega
          subst ek
          refine lv_aload_n cx.1 cx.2.1 dL_adjusts_158 rfl (lv_at hl 0 rfl) ?_
          refine lv_iload_n cx.1 cx.2.1 dL_adjusts_159 rfl (lv_at hl 3 rfl) ?_
          refine lv_iload cx.1 cx.2.1 dL_adjusts_160 (lv_at hl 4 rfl) ?_
          refine lv_iload cx.1 cx.2.1 dL_adjusts_162 (lv_at hl 5 rfl) ?_
          refine WR.callV (As := [.int (nI (65 + lowN g0 5)), .int (nI rt), .int ((nI (lowN h0 7)) - 3)]) (rest := []) cx (c_X6_adjust l G a AD Y (nI (65 + lowN g0 5)) (nI rt) ((nI (lowN h0 7)) - 3) hG.h hG.all) gL_adjusts_X6_adjust rfl hd_X6_adjust ⟨Nat.le_of_ble_eq_true rfl, Nat.le_of_ble_eq_true rfl⟩ (va_recv hK hP (ci := 5) (q0 := 0) rfl rfl) hK hN hP hD hS (fun _ h => pl_wA0 h) rfl hl.1 rfl (Nat.le_of_ble_eq_true rfl) dL_adjusts_164 ⟨Nat.zero_le _, Nat.zero_le _⟩ (fun H1 locs hP1 hk1 hS => ?_)
          have hP : va_P G.1 vwCl (plC G a AD ((yAdj Y (nI (65 + lowN g0 5)) (nI rt) ((nI (lowN h0 7)) - 3)).2)) H1 := hP1
          have hD : va_D (wA (plC G a AD Y)) (plC G a AD ((yAdj Y (nI (65 + lowN g0 5)) (nI rt) ((nI (lowN h0 7)) - 3)).2)) := pl_Dput hD
          generalize H1 = H at hP hS ⊢
          clear hP1 hk1
          obtain ⟨Y1, e1, sp1, f1⟩ := f_adj hG (a := (nI (65 + lowN g0 5))) (b := (nI rt)) (v := (nI (lowN h0 7) - 3)) (ok_n (Or.inr ⟨by omega, by omega⟩)) (ok_n hrt) (by_in h0)
          rw [e1] at hP hD ⊢
          have hP : va_P G.1 vwCl (plC G a AD Y1) H := hP
          have hD : va_D (wA (plC G a AD Y)) (plC G a AD Y1) := hD
          refine nv_eqi (y := dA Y (nI (65 + lowN g0 5)) (nI rt) (nI (lowN h0 7) - 3)) rfl ?_
          refine lv_istore (lv' := [(9, .int (dA Y (nI (65 + lowN g0 5)) (nI rt) (nI (lowN h0 7) - 3))), (0, .ref (a 0)), (1, .int g0), (2, .int h0), (3, .int (nI (65 + lowN g0 5))), (4, .int (nI rt)), (5, .int ((nI (lowN h0 7)) - 3)), (6, .int (xAdj (Y 5) (nI (65 + lowN g0 5)) (nI rt))), (7, .int (nI (xp (Y 5)))), (8, .int (b2i (ckN (Y 5) (nI (65 + lowN g0 5)) (nI rt) (xn (Y 5)))))]) cx.1 cx.2.1 dL_adjusts_167 hl (by decide) rfl (fun ls hl => ?_)
          refine lv_iload cx.1 cx.2.1 dL_adjusts_169 (lv_at hl 9 rfl) ?_
          have jn171 : ∀ (ls : Array Slot), lv_has ls 11 [(9, .int (dA Y (nI (65 + lowN g0 5)) (nI rt) (nI (lowN h0 7) - 3))), (0, .ref (a 0)), (1, .int g0), (2, .int h0), (3, .int (nI (65 + lowN g0 5))), (4, .int (nI rt)), (5, .int ((nI (lowN h0 7)) - 3)), (6, .int (xAdj (Y 5) (nI (65 + lowN g0 5)) (nI rt))), (7, .int (nI (xp (Y 5)))), (8, .int (b2i (ckN (Y 5) (nI (65 + lowN g0 5)) (nI rt) (xn (Y 5)))))] → W p l e ({ frames := 7, cells := 0, slots := 0, locals := 168 } : Room) s m [.ref (a 0), .int g0, .int h0].toArray below meth c H locs 0 0 (MQ below (QL G (plC G a AD Y) (fun v ws1 => v = 1 ∧ ∃ Y2, Sp Y Y2 ∧ ws1 = plC G a AD Y2)) [.ref (a 0), .int g0, .int h0].toArray s 0 0 (wA (plC G a AD Y))) (F0 m 213 ls [.int (dA Y (nI (65 + lowN g0 5)) (nI rt) (nI (lowN h0 7) - 3))]) := by
            intro  ls  hl
            refine lv_istore (lv' := [(10, .int (dA Y (nI (65 + lowN g0 5)) (nI rt) (nI (lowN h0 7) - 3))), (9, .int (dA Y (nI (65 + lowN g0 5)) (nI rt) (nI (lowN h0 7) - 3))), (0, .ref (a 0)), (1, .int g0), (2, .int h0), (3, .int (nI (65 + lowN g0 5))), (4, .int (nI rt)), (5, .int ((nI (lowN h0 7)) - 3)), (6, .int (xAdj (Y 5) (nI (65 + lowN g0 5)) (nI rt))), (7, .int (nI (xp (Y 5)))), (8, .int (b2i (ckN (Y 5) (nI (65 + lowN g0 5)) (nI rt) (xn (Y 5)))))]) cx.1 cx.2.1 dL_adjusts_213 hl (by decide) rfl (fun ls hl => ?_)
            refine lv_iload cx.1 cx.2.1 dL_adjusts_215 (lv_at hl 1 rfl) ?_
            refine lv_iload cx.1 cx.2.1 dL_adjusts_217 (lv_at hl 0 rfl) ?_
            refine lv_icmp_ne (x := dA Y (nI (65 + lowN g0 5)) (nI rt) (nI (lowN h0 7) - 3)) (y := dA Y (nI (65 + lowN g0 5)) (nI rt) (nI (lowN h0 7) - 3)) (tgt := 280) cx.1 cx.2.1 dL_adjusts_219 (by decide) (fun c_2 => ?_) (fun c_2 => ?_)
            · exact absurd rfl c_2
            · refine lv_aload_n cx.1 cx.2.1 dL_adjusts_222 rfl (lv_at hl 2 rfl) ?_
              refine lv_iload_n cx.1 cx.2.1 dL_adjusts_223 rfl (lv_at hl 5 rfl) ?_
              refine lv_iload cx.1 cx.2.1 dL_adjusts_224 (lv_at hl 6 rfl) ?_
              refine RO.callV (As := [.int (nI (65 + lowN g0 5)), .int (nI rt)]) (rest := []) cx (c_X6_adjustment l G a AD Y1 (nI (65 + lowN g0 5)) (nI rt) sp1.1.ok) gL_adjusts_X6_adjustment rfl hd_X6_adjustment ⟨Nat.le_of_ble_eq_true rfl, Nat.le_of_ble_eq_true rfl⟩ (va_recv hK hP (ci := 5) (q0 := 0) rfl rfl) hK hN hP rfl hl.1 rfl (Nat.le_of_ble_eq_true rfl) dL_adjusts_226 ⟨Nat.zero_le _, Nat.zero_le _⟩ ?_
              refine nv_eqi (y := xAdj (Y1 5) (nI (65 + lowN g0 5)) (nI rt)) (ad_n (Or.inr ⟨by omega, by omega⟩) hrt) ?_
              refine lv_iload cx.1 cx.2.1 dL_adjusts_229 (lv_at hl 0 rfl) ?_
              refine lv_sipush (v := (-1000)) cx.1 cx.2.1 dL_adjusts_231 (by decide) ?_
              have jn234 : ∀ (ls : Array Slot), lv_has ls 11 [(10, .int (dA Y (nI (65 + lowN g0 5)) (nI rt) (nI (lowN h0 7) - 3))), (9, .int (dA Y (nI (65 + lowN g0 5)) (nI rt) (nI (lowN h0 7) - 3))), (0, .ref (a 0)), (1, .int g0), (2, .int h0), (3, .int (nI (65 + lowN g0 5))), (4, .int (nI rt)), (5, .int ((nI (lowN h0 7)) - 3)), (6, .int (xAdj (Y 5) (nI (65 + lowN g0 5)) (nI rt))), (7, .int (nI (xp (Y 5)))), (8, .int (b2i (ckN (Y 5) (nI (65 + lowN g0 5)) (nI rt) (xn (Y 5)))))] → W p l e ({ frames := 7, cells := 0, slots := 0, locals := 168 } : Room) s m [.ref (a 0), .int g0, .int h0].toArray below meth c H locs 0 0 (MQ below (QL G (plC G a AD Y) (fun v ws1 => v = 1 ∧ ∃ Y2, Sp Y Y2 ∧ ws1 = plC G a AD Y2)) [.ref (a 0), .int g0, .int h0].toArray s 0 0 (wA (plC G a AD Y))) (F0 m 244 ls [.int (xAdj (Y1 5) (nI (65 + lowN g0 5)) (nI rt)), .int (xAdj (Y1 5) (nI (65 + lowN g0 5)) (nI rt))]) := by
                intro  ls  hl
                refine lv_icmp_ne (x := xAdj (Y1 5) (nI (65 + lowN g0 5)) (nI rt)) (y := xAdj (Y1 5) (nI (65 + lowN g0 5)) (nI rt)) (tgt := 280) cx.1 cx.2.1 dL_adjusts_244 (by decide) (fun c_3 => ?_) (fun c_3 => ?_)
                · exact absurd rfl c_3
                · refine lv_aload_n cx.1 cx.2.1 dL_adjusts_247 rfl (lv_at hl 2 rfl) ?_
                  refine lv_iload_n cx.1 cx.2.1 dL_adjusts_248 rfl (lv_at hl 5 rfl) ?_
                  refine lv_iload cx.1 cx.2.1 dL_adjusts_249 (lv_at hl 6 rfl) ?_
                  refine lv_iconst (v := nI 4) cx.1 cx.2.1 dL_adjusts_251 (by decide) ?_
                  refine WR.callV (As := [.int (nI (65 + lowN g0 5)), .int (nI rt), .int 4]) (rest := []) cx (c_X6_adjust l G a AD Y1 (nI (65 + lowN g0 5)) (nI rt) 4 sp1.1.h sp1.1.all) gL_adjusts_X6_adjust rfl hd_X6_adjust ⟨Nat.le_of_ble_eq_true rfl, Nat.le_of_ble_eq_true rfl⟩ (va_recv hK hP (ci := 5) (q0 := 0) rfl rfl) hK hN hP hD hS (fun _ h => pl_wA0 h) rfl hl.1 rfl (Nat.le_of_ble_eq_true rfl) dL_adjusts_252 ⟨Nat.zero_le _, Nat.zero_le _⟩ (fun H1 locs hP1 hk1 hS => ?_)
                  have hP : va_P G.1 vwCl (plC G a AD ((yAdj Y1 (nI (65 + lowN g0 5)) (nI rt) 4).2)) H1 := hP1
                  have hD : va_D (wA (plC G a AD Y)) (plC G a AD ((yAdj Y1 (nI (65 + lowN g0 5)) (nI rt) 4).2)) := pl_Dput hD
                  generalize H1 = H at hP hS ⊢
                  clear hP1 hk1
                  have e2 : yAdj Y1 (nI (65 + lowN g0 5)) (nI rt) 4 = (-1002, Y1) := adj_4 (ok_n (Or.inr ⟨by omega, by omega⟩)) (ok_n hrt)
                  rw [e2] at hP hD ⊢
                  have hP : va_P G.1 vwCl (plC G a AD Y1) H := hP
                  have hD : va_D (wA (plC G a AD Y)) (plC G a AD Y1) := hD
                  refine nv_eqi (y := (-1002)) rfl ?_
                  refine lv_sipush (v := (-1002)) cx.1 cx.2.1 dL_adjusts_255 (by decide) ?_
                  refine lv_icmp_ne (x := (-1002)) (y := (-1002)) (tgt := 280) cx.1 cx.2.1 dL_adjusts_258 (by decide) (fun c_4 => ?_) (fun c_4 => ?_)
                  · exact absurd rfl c_4
                  · refine lv_aload_n cx.1 cx.2.1 dL_adjusts_261 rfl (lv_at hl 2 rfl) ?_
                    refine lv_bipush (v := nI 97) cx.1 cx.2.1 dL_adjusts_262 (by decide) ?_
                    refine lv_iload cx.1 cx.2.1 dL_adjusts_264 (lv_at hl 6 rfl) ?_
                    refine lv_iconst (v := nI 0) cx.1 cx.2.1 dL_adjusts_266 (by decide) ?_
                    refine WR.callV (As := [.int 97, .int (nI rt), .int 0]) (rest := []) cx (c_X6_adjust l G a AD Y1 97 (nI rt) 0 sp1.1.h sp1.1.all) gL_adjusts_X6_adjust rfl hd_X6_adjust ⟨Nat.le_of_ble_eq_true rfl, Nat.le_of_ble_eq_true rfl⟩ (va_recv hK hP (ci := 5) (q0 := 0) rfl rfl) hK hN hP hD hS (fun _ h => pl_wA0 h) rfl hl.1 rfl (Nat.le_of_ble_eq_true rfl) dL_adjusts_267 ⟨Nat.zero_le _, Nat.zero_le _⟩ (fun H1 locs hP1 hk1 hS => ?_)
                    have hP : va_P G.1 vwCl (plC G a AD ((yAdj Y1 97 (nI rt) 0).2)) H1 := hP1
                    have hD : va_D (wA (plC G a AD Y)) (plC G a AD ((yAdj Y1 97 (nI rt) 0).2)) := pl_Dput hD
                    generalize H1 = H at hP hS ⊢
                    clear hP1 hk1
                    have e3 : yAdj Y1 97 (nI rt) 0 = (-1001, Y1) := adj_a _
                    rw [e3] at hP hD ⊢
                    have hP : va_P G.1 vwCl (plC G a AD Y1) H := hP
                    have hD : va_D (wA (plC G a AD Y)) (plC G a AD Y1) := hD
                    refine nv_eqi (y := (-1001)) rfl ?_
                    refine lv_sipush (v := (-1001)) cx.1 cx.2.1 dL_adjusts_270 (by decide) ?_
                    refine lv_icmp_ne (x := (-1001)) (y := (-1001)) (tgt := 280) cx.1 cx.2.1 dL_adjusts_273 (by decide) (fun c_5 => ?_) (fun c_5 => ?_)
                    · exact absurd rfl c_5
                    · refine lv_iconst (v := nI 1) cx.1 cx.2.1 dL_adjusts_276 (by decide) ?_
                      refine lv_goto (tgt := 281) cx.1 cx.2.1 dL_adjusts_277 (by decide) ?_
                      exact LW.retz (x := nI 1) (ws1 := plC G a AD Y1) cx hr hlocks dL_adjusts_281 (by decide) ⟨rfl, _, sp1, rfl⟩ hP hS
              refine lv_icmp_ge (x := dA Y (nI (65 + lowN g0 5)) (nI rt) (nI (lowN h0 7) - 3)) (y := (-1000)) (tgt := 242) cx.1 cx.2.1 dL_adjusts_234 (by decide) (fun c_6 => ?_) (fun c_6 => ?_)
              · refine lv_iload cx.1 cx.2.1 dL_adjusts_242 (lv_at hl 7 rfl) ?_
                refine nv_eqi (y := xAdj (Y1 5) (nI (65 + lowN g0 5)) (nI rt)) (by first | exact (f1.trans (if_neg (Int32.not_lt.mpr c_6))).symm | exact (f1.trans (if_pos (Int32.not_le.mp c_6))).symm) ?_
                exact jn234  ls  hl
              · refine lv_iload cx.1 cx.2.1 dL_adjusts_237 (lv_at hl 8 rfl) ?_
                refine lv_goto (tgt := 244) cx.1 cx.2.1 dL_adjusts_239 (by decide) ?_
                refine nv_eqi (y := xAdj (Y1 5) (nI (65 + lowN g0 5)) (nI rt)) (by first | exact (f1.trans (if_neg (Int32.not_lt.mpr c_6))).symm | exact (f1.trans (if_pos (Int32.not_le.mp c_6))).symm) ?_
                exact jn234  ls  hl
          refine nv_ifz (b := ckN (Y 5) (nI (65 + lowN g0 5)) (nI rt) (xn (Y 5))) (tgt := 180) cx dL_adjusts_171 (by decide) (fun c_7 => ?_) (fun c_7 => ?_)
          · have c171 : xCut (Y 5) (nI (65 + lowN g0 5)) (nI rt) = false := (ck_cut (Y 5) (nI (65 + lowN g0 5)) (nI rt)).symm.trans c_7
            refine lv_iload cx.1 cx.2.1 dL_adjusts_180 (lv_at hl 7 rfl) ?_
            refine lv_iload cx.1 cx.2.1 dL_adjusts_182 (lv_at hl 6 rfl) ?_
            refine lv_icmp_ne (x := xAdj (Y 5) (nI (65 + lowN g0 5)) (nI rt)) (y := (nI (lowN h0 7)) - 3) (tgt := 193) cx.1 cx.2.1 dL_adjusts_184 (by decide) (fun c_8 => ?_) (fun c_8 => ?_)
            · have c184 := c_8
              refine lv_iload cx.1 cx.2.1 dL_adjusts_193 (lv_at hl 7 rfl) ?_
              refine lv_if_ne (x := xAdj (Y 5) (nI (65 + lowN g0 5)) (nI rt)) (tgt := 211) cx.1 cx.2.1 dL_adjusts_195 (by decide) (fun c_9 => ?_) (fun c_9 => ?_)
              · refine lv_iload cx.1 cx.2.1 dL_adjusts_211 (lv_at hl 7 rfl) ?_
                refine nv_eqi (y := dA Y (nI (65 + lowN g0 5)) (nI rt) (nI (lowN h0 7) - 3)) (by first | exact dA_1 ((ck_cut _ _ _).symm.trans c_9) | exact dA_2 c171 c_9 | exact dA_3 c171 c184 c195 c_9 | exact dA_4 hp16 c171 c184 c_9 | exact dA_5 c171 c184 c_9) ?_
                exact jn171  ls  hl
              · have c195 := c_9
                refine lv_iload cx.1 cx.2.1 dL_adjusts_198 (lv_at hl 8 rfl) ?_
                refine lv_bipush (v := nI 16) cx.1 cx.2.1 dL_adjusts_200 (by decide) ?_
                refine nv_icmp_ne (a := xp (Y 5)) (b := 16) (tgt := 211) cx dL_adjusts_202 (by decide) (by omega) (by omega) (fun c_10 => ?_) (fun c_10 => ?_)
                · refine lv_iload cx.1 cx.2.1 dL_adjusts_211 (lv_at hl 7 rfl) ?_
                  refine nv_eqi (y := dA Y (nI (65 + lowN g0 5)) (nI rt) (nI (lowN h0 7) - 3)) (by first | exact dA_1 ((ck_cut _ _ _).symm.trans c_10) | exact dA_2 c171 c_10 | exact dA_3 c171 c184 c195 c_10 | exact dA_4 hp16 c171 c184 c_10 | exact dA_5 c171 c184 c_10) ?_
                  exact jn171  ls  hl
                · refine lv_sipush (v := (-1003)) cx.1 cx.2.1 dL_adjusts_205 (by decide) ?_
                  refine lv_goto (tgt := 213) cx.1 cx.2.1 dL_adjusts_208 (by decide) ?_
                  refine nv_eqi (y := dA Y (nI (65 + lowN g0 5)) (nI rt) (nI (lowN h0 7) - 3)) (by first | exact dA_1 ((ck_cut _ _ _).symm.trans c_10) | exact dA_2 c171 c_10 | exact dA_3 c171 c184 c195 c_10 | exact dA_4 hp16 c171 c184 c_10 | exact dA_5 c171 c184 c_10) ?_
                  exact jn171  ls  hl
            · refine lv_sipush (v := (-1005)) cx.1 cx.2.1 dL_adjusts_187 (by decide) ?_
              refine lv_goto (tgt := 213) cx.1 cx.2.1 dL_adjusts_190 (by decide) ?_
              refine nv_eqi (y := dA Y (nI (65 + lowN g0 5)) (nI rt) (nI (lowN h0 7) - 3)) (by first | exact dA_1 ((ck_cut _ _ _).symm.trans c_8) | exact dA_2 c171 c_8 | exact dA_3 c171 c184 c195 c_8 | exact dA_4 hp16 c171 c184 c_8 | exact dA_5 c171 c184 c_8) ?_
              exact jn171  ls  hl
          · refine lv_sipush (v := (-1004)) cx.1 cx.2.1 dL_adjusts_174 (by decide) ?_
            refine lv_goto (tgt := 213) cx.1 cx.2.1 dL_adjusts_177 (by decide) ?_
            refine nv_eqi (y := dA Y (nI (65 + lowN g0 5)) (nI rt) (nI (lowN h0 7) - 3)) (by first | exact dA_1 ((ck_cut _ _ _).symm.trans c_7) | exact dA_2 c171 c_7 | exact dA_3 c171 c184 c195 c_7 | exact dA_4 hp16 c171 c184 c_7 | exact dA_5 c171 c184 c_7) ?_
            exact jn171  ls  hl
        · have hk : k < xn (Y 5) := c_1
          have hl16 := hok.l16 (show k < 20 by omega)
          have hl1 := hRl.l1 hk
          have jn79 : ∀ (ls : Array Slot), lv_has ls 11 [(0, .ref (a 0)), (1, .int g0), (2, .int h0), (3, .int (nI (65 + lowN g0 5))), (4, .int (nI rt)), (5, .int ((nI (lowN h0 7)) - 3)), (6, .int (xAdj (Y 5) (nI (65 + lowN g0 5)) (nI rt))), (7, .int (nI (xp (Y 5)))), (8, .int (b2i (ckN (Y 5) (nI (65 + lowN g0 5)) (nI rt) (k + 1)))), (9, .int (nI k))] → W p l e ({ frames := 7, cells := 0, slots := 0, locals := 168 } : Room) s m [.ref (a 0), .int g0, .int h0].toArray below meth c s.heap [] 0 0 (MQ below (QL G (plC G a AD Y) (fun v ws1 => v = 1 ∧ ∃ Y2, Sp Y Y2 ∧ ws1 = plC G a AD Y2)) [.ref (a 0), .int g0, .int h0].toArray s 0 0 (wA (plC G a AD Y))) (F0 m 152 ls []) := by
            intro  ls  hl
            refine lv_iinc (v := nI (k + 1)) (lv' := [(9, .int (nI (k + 1))), (0, .ref (a 0)), (1, .int g0), (2, .int h0), (3, .int (nI (65 + lowN g0 5))), (4, .int (nI rt)), (5, .int ((nI (lowN h0 7)) - 3)), (6, .int (xAdj (Y 5) (nI (65 + lowN g0 5)) (nI rt))), (7, .int (nI (xp (Y 5)))), (8, .int (b2i (ckN (Y 5) (nI (65 + lowN g0 5)) (nI rt) (k + 1))))]) cx.1 cx.2.1 dL_adjusts_152 hl (k := 9) rfl (show nI k + Int32.ofInt 1 = nI (k + 1) from nI_add k 1) (by decide) rfl (fun ls hl => ?_)
            refine lv_goto (tgt := 69) cx.1 cx.2.1 dL_adjusts_155 (by decide) ?_
            exact ih69 (k + 1) (by omega) (by omega) ls (lv_sub hl [1, 2, 3, 4, 5, 6, 7, 8, 9, 0] rfl)
          refine lv_iconst (v := nI 0) cx.1 cx.2.1 dL_adjusts_79 (by decide) ?_
          refine lv_istore (lv' := [(10, .int (nI 0)), (0, .ref (a 0)), (1, .int g0), (2, .int h0), (3, .int (nI (65 + lowN g0 5))), (4, .int (nI rt)), (5, .int ((nI (lowN h0 7)) - 3)), (6, .int (xAdj (Y 5) (nI (65 + lowN g0 5)) (nI rt))), (7, .int (nI (xp (Y 5)))), (8, .int (b2i (ckN (Y 5) (nI (65 + lowN g0 5)) (nI rt) k))), (9, .int (nI k))]) cx.1 cx.2.1 dL_adjusts_80 hl (by decide) rfl (fun ls hl => ?_)
          have lp82 : ∀ (r : Nat) (x : Nat) (hr9 : xl (Y 5) k - x < r) (hxl : x ≤ xl (Y 5) k - 1) (hxe : x = 0 ∨ xEb (Y 5) k = true) (ls : Array Slot), lv_has ls 11 [(0, .ref (a 0)), (1, .int g0), (2, .int h0), (3, .int (nI (65 + lowN g0 5))), (4, .int (nI rt)), (5, .int ((nI (lowN h0 7)) - 3)), (6, .int (xAdj (Y 5) (nI (65 + lowN g0 5)) (nI rt))), (7, .int (nI (xp (Y 5)))), (8, .int (b2i (ckN (Y 5) (nI (65 + lowN g0 5)) (nI rt) k || hpN (Y 5) (nI (65 + lowN g0 5)) (nI rt) k x))), (9, .int (nI k)), (10, .int (nI x))] → W p l e ({ frames := 7, cells := 0, slots := 0, locals := 168 } : Room) s m [.ref (a 0), .int g0, .int h0].toArray below meth c s.heap [] 0 0 (MQ below (QL G (plC G a AD Y) (fun v ws1 => v = 1 ∧ ∃ Y2, Sp Y Y2 ∧ ws1 = plC G a AD Y2)) [.ref (a 0), .int g0, .int h0].toArray s 0 0 (wA (plC G a AD Y))) (F0 m 82 ls []) := by
            intro r
            induction r with
            | zero => intro x hr9; exact absurd hr9 (Nat.not_lt_zero _)
            | succ r ih82 =>
              intro x hr9 hxl hxe ls hl
              refine lv_aload_n cx.1 cx.2.1 dL_adjusts_82 rfl (lv_at hl 0 rfl) ?_
              refine lv_iload cx.1 cx.2.1 dL_adjusts_83 (lv_at hl 9 rfl) ?_
              refine lv_iconst (v := nI 2) cx.1 cx.2.1 dL_adjusts_85 (by decide) ?_
              refine RO.callV (As := [.int (nI k), .int 2]) (rest := []) cx (c_X6_name l G a AD Y (nI k) 2 hok) gL_adjusts_X6_name rfl hd_X6_name ⟨Nat.le_of_ble_eq_true rfl, Nat.le_of_ble_eq_true rfl⟩ (va_recv hK hP (ci := 5) (q0 := 0) rfl rfl) hK hN hP rfl hl.1 rfl (Nat.le_of_ble_eq_true rfl) dL_adjusts_86 ⟨Nat.zero_le _, Nat.zero_le _⟩ ?_
              refine nv_eqi (y := b2i (xEb (Y 5) k)) (nm2 hok (by omega)) ?_
              refine lv_iconst (v := nI 1) cx.1 cx.2.1 dL_adjusts_89 (by decide) ?_
              refine lv_icmp_ne (x := b2i (xEb (Y 5) k)) (y := 1) (tgt := 152) cx.1 cx.2.1 dL_adjusts_90 (by decide) (fun c_11 => ?_) (fun c_11 => ?_)
              · have e8 : b2i (ckN (Y 5) (nI (65 + lowN g0 5)) (nI rt) (k + 1)) = b2i (ckN (Y 5) (nI (65 + lowN g0 5)) (nI rt) k || hpN (Y 5) (nI (65 + lowN g0 5)) (nI rt) k x) := by first | exact ck_n (b2i_n1 c_11) _ hxe | exact ck_y heb (by omega)
                exact jn79  ls  (lv_sub hl [0, 1, 2, 3, 4, 5, 6, 7, 8, 9] (by rw [e8]; rfl))
              · have heb := b2i_1' c_11
                refine lv_iload cx.1 cx.2.1 dL_adjusts_93 (lv_at hl 10 rfl) ?_
                refine lv_iconst (v := nI 1) cx.1 cx.2.1 dL_adjusts_95 (by decide) ?_
                refine nv_iadd cx (a := x) (b := 1) dL_adjusts_96 ?_
                refine lv_aload_n cx.1 cx.2.1 dL_adjusts_97 rfl (lv_at hl 0 rfl) ?_
                refine lv_iload cx.1 cx.2.1 dL_adjusts_98 (lv_at hl 9 rfl) ?_
                refine lv_iconst (v := nI 0) cx.1 cx.2.1 dL_adjusts_100 (by decide) ?_
                refine RO.callV (As := [.int (nI k), .int 0]) (rest := [.int (nI (x + 1))]) cx (c_X6_name l G a AD Y (nI k) 0 hok) gL_adjusts_X6_name rfl hd_X6_name ⟨Nat.le_of_ble_eq_true rfl, Nat.le_of_ble_eq_true rfl⟩ (va_recv hK hP (ci := 5) (q0 := 0) rfl rfl) hK hN hP rfl hl.1 rfl (Nat.le_of_ble_eq_true rfl) dL_adjusts_101 ⟨Nat.zero_le _, Nat.zero_le _⟩ ?_
                refine nv_eqi (y := nI (xl (Y 5) k)) (nm0 hok (by omega)) ?_
                refine nv_icmp_ge (a := x + 1) (b := xl (Y 5) k) (tgt := 152) cx dL_adjusts_104 (by decide) (by omega) (by omega) (fun c_12 => ?_) (fun c_12 => ?_)
                · have e8 : b2i (ckN (Y 5) (nI (65 + lowN g0 5)) (nI rt) (k + 1)) = b2i (ckN (Y 5) (nI (65 + lowN g0 5)) (nI rt) k || hpN (Y 5) (nI (65 + lowN g0 5)) (nI rt) k x) := by first | exact ck_n (b2i_n1 c_12) _ hxe | exact ck_y heb (by omega)
                  exact jn79  ls  (lv_sub hl [0, 1, 2, 3, 4, 5, 6, 7, 8, 9] (by rw [e8]; rfl))
                · refine lv_iload cx.1 cx.2.1 dL_adjusts_107 (lv_at hl 8 rfl) ?_
                  refine lv_aload_n cx.1 cx.2.1 dL_adjusts_109 rfl (lv_at hl 0 rfl) ?_
                  refine lv_iload cx.1 cx.2.1 dL_adjusts_110 (lv_at hl 9 rfl) ?_
                  refine lv_iload cx.1 cx.2.1 dL_adjusts_112 (lv_at hl 10 rfl) ?_
                  refine lv_iconst (v := nI 0) cx.1 cx.2.1 dL_adjusts_114 (by decide) ?_
                  refine RO.callV (As := [.int (nI k), .int (nI x), .int 0]) (rest := [.int (b2i (ckN (Y 5) (nI (65 + lowN g0 5)) (nI rt) k || hpN (Y 5) (nI (65 + lowN g0 5)) (nI rt) k x))]) cx (c_X6_sign l G a AD Y (nI k) (nI x) 0 hok) gL_adjusts_X6_sign rfl hd_X6_sign ⟨Nat.le_of_ble_eq_true rfl, Nat.le_of_ble_eq_true rfl⟩ (va_recv hK hP (ci := 5) (q0 := 0) rfl rfl) hK hN hP rfl hl.1 rfl (Nat.le_of_ble_eq_true rfl) dL_adjusts_115 ⟨Nat.zero_le _, Nat.zero_le _⟩ ?_
                  refine nv_eqi (y := xSg (Y 5) k x) (sg0 hok (by omega) (by omega)) ?_
                  refine lv_iload_n cx.1 cx.2.1 dL_adjusts_118 rfl (lv_at hl 3 rfl) ?_
                  have jn119 : ∀ (ls : Array Slot), lv_has ls 11 [(0, .ref (a 0)), (1, .int g0), (2, .int h0), (3, .int (nI (65 + lowN g0 5))), (4, .int (nI rt)), (5, .int ((nI (lowN h0 7)) - 3)), (6, .int (xAdj (Y 5) (nI (65 + lowN g0 5)) (nI rt))), (7, .int (nI (xp (Y 5)))), (8, .int (b2i (ckN (Y 5) (nI (65 + lowN g0 5)) (nI rt) k || hpN (Y 5) (nI (65 + lowN g0 5)) (nI rt) k x))), (9, .int (nI k)), (10, .int (nI x))] → W p l e ({ frames := 7, cells := 0, slots := 0, locals := 168 } : Room) s m [.ref (a 0), .int g0, .int h0].toArray below meth c s.heap [] 0 0 (MQ below (QL G (plC G a AD Y) (fun v ws1 => v = 1 ∧ ∃ Y2, Sp Y Y2 ∧ ws1 = plC G a AD Y2)) [.ref (a 0), .int g0, .int h0].toArray s 0 0 (wA (plC G a AD Y))) (F0 m 143 ls [.int (b2i (xCq (Y 5) (nI (65 + lowN g0 5)) (nI rt) k x)), .int (b2i (ckN (Y 5) (nI (65 + lowN g0 5)) (nI rt) k || hpN (Y 5) (nI (65 + lowN g0 5)) (nI rt) k x))]) := by
                    intro  ls  hl
                    refine lv_ior (x := b2i (ckN (Y 5) (nI (65 + lowN g0 5)) (nI rt) k || hpN (Y 5) (nI (65 + lowN g0 5)) (nI rt) k x)) (y := b2i (xCq (Y 5) (nI (65 + lowN g0 5)) (nI rt) k x)) cx.1 cx.2.1 dL_adjusts_143 ?_
                    refine nv_eqi (y := b2i ((ckN (Y 5) (nI (65 + lowN g0 5)) (nI rt) k || hpN (Y 5) (nI (65 + lowN g0 5)) (nI rt) k x) || xCq (Y 5) (nI (65 + lowN g0 5)) (nI rt) k x)) (b2i_or _ _) ?_
                    refine lv_istore (lv' := [(8, .int (b2i ((ckN (Y 5) (nI (65 + lowN g0 5)) (nI rt) k || hpN (Y 5) (nI (65 + lowN g0 5)) (nI rt) k x) || xCq (Y 5) (nI (65 + lowN g0 5)) (nI rt) k x))), (0, .ref (a 0)), (1, .int g0), (2, .int h0), (3, .int (nI (65 + lowN g0 5))), (4, .int (nI rt)), (5, .int ((nI (lowN h0 7)) - 3)), (6, .int (xAdj (Y 5) (nI (65 + lowN g0 5)) (nI rt))), (7, .int (nI (xp (Y 5)))), (9, .int (nI k)), (10, .int (nI x))]) cx.1 cx.2.1 dL_adjusts_144 hl (by decide) rfl (fun ls hl => ?_)
                    refine lv_iinc (v := nI (x + 1)) (lv' := [(10, .int (nI (x + 1))), (8, .int (b2i ((ckN (Y 5) (nI (65 + lowN g0 5)) (nI rt) k || hpN (Y 5) (nI (65 + lowN g0 5)) (nI rt) k x) || xCq (Y 5) (nI (65 + lowN g0 5)) (nI rt) k x))), (0, .ref (a 0)), (1, .int g0), (2, .int h0), (3, .int (nI (65 + lowN g0 5))), (4, .int (nI rt)), (5, .int ((nI (lowN h0 7)) - 3)), (6, .int (xAdj (Y 5) (nI (65 + lowN g0 5)) (nI rt))), (7, .int (nI (xp (Y 5)))), (9, .int (nI k))]) cx.1 cx.2.1 dL_adjusts_146 hl (k := 10) rfl (show nI x + Int32.ofInt 1 = nI (x + 1) from nI_add x 1) (by decide) rfl (fun ls hl => ?_)
                    refine lv_goto (tgt := 82) cx.1 cx.2.1 dL_adjusts_149 (by decide) ?_
                    have e8 : b2i (ckN (Y 5) (nI (65 + lowN g0 5)) (nI rt) k || hpN (Y 5) (nI (65 + lowN g0 5)) (nI rt) k (x + 1)) = b2i ((ckN (Y 5) (nI (65 + lowN g0 5)) (nI rt) k || hpN (Y 5) (nI (65 + lowN g0 5)) (nI rt) k x) || xCq (Y 5) (nI (65 + lowN g0 5)) (nI rt) k x) := by rw [Bool.or_assoc]; rfl
                    exact ih82 (x + 1) (by omega) (by omega) (Or.inr heb) ls (lv_sub hl [2, 3, 4, 5, 6, 7, 8, 9, 1, 10, 0] (by rw [e8]; rfl))
                  refine lv_icmp_ne (x := xSg (Y 5) k x) (y := nI (65 + lowN g0 5)) (tgt := 142) cx.1 cx.2.1 dL_adjusts_119 (by decide) (fun c_13 => ?_) (fun c_13 => ?_)
                  · refine lv_iconst (v := nI 0) cx.1 cx.2.1 dL_adjusts_142 (by decide) ?_
                    refine nv_eqi (y := b2i (xCq (Y 5) (nI (65 + lowN g0 5)) (nI rt) k x)) (by first | (simp [xCq, b2i, c_11, c_12, c_13]; done) | (simp [xCq, b2i, c_11, c_12, c_13]; rfl)) ?_
                    exact jn119  ls  hl
                  · refine lv_aload_n cx.1 cx.2.1 dL_adjusts_122 rfl (lv_at hl 0 rfl) ?_
                    refine lv_iload cx.1 cx.2.1 dL_adjusts_123 (lv_at hl 9 rfl) ?_
                    refine lv_iload cx.1 cx.2.1 dL_adjusts_125 (lv_at hl 10 rfl) ?_
                    refine lv_iconst (v := nI 1) cx.1 cx.2.1 dL_adjusts_127 (by decide) ?_
                    refine nv_iadd cx (a := x) (b := 1) dL_adjusts_128 ?_
                    refine lv_iconst (v := nI 0) cx.1 cx.2.1 dL_adjusts_129 (by decide) ?_
                    refine RO.callV (As := [.int (nI k), .int (nI (x + 1)), .int 0]) (rest := [.int (b2i (ckN (Y 5) (nI (65 + lowN g0 5)) (nI rt) k || hpN (Y 5) (nI (65 + lowN g0 5)) (nI rt) k x))]) cx (c_X6_sign l G a AD Y (nI k) (nI (x + 1)) 0 hok) gL_adjusts_X6_sign rfl hd_X6_sign ⟨Nat.le_of_ble_eq_true rfl, Nat.le_of_ble_eq_true rfl⟩ (va_recv hK hP (ci := 5) (q0 := 0) rfl rfl) hK hN hP rfl hl.1 rfl (Nat.le_of_ble_eq_true rfl) dL_adjusts_130 ⟨Nat.zero_le _, Nat.zero_le _⟩ ?_
                    refine nv_eqi (y := xSg (Y 5) k (x + 1)) (sg0 hok (by omega) (by omega)) ?_
                    refine lv_iload cx.1 cx.2.1 dL_adjusts_133 (lv_at hl 4 rfl) ?_
                    refine lv_icmp_ne (x := xSg (Y 5) k (x + 1)) (y := nI rt) (tgt := 142) cx.1 cx.2.1 dL_adjusts_135 (by decide) (fun c_14 => ?_) (fun c_14 => ?_)
                    · refine lv_iconst (v := nI 0) cx.1 cx.2.1 dL_adjusts_142 (by decide) ?_
                      refine nv_eqi (y := b2i (xCq (Y 5) (nI (65 + lowN g0 5)) (nI rt) k x)) (by first | (simp [xCq, b2i, c_12, c_13, c_14]; done) | (simp [xCq, b2i, c_12, c_13, c_14]; rfl)) ?_
                      exact jn119  ls  hl
                    · refine lv_iconst (v := nI 1) cx.1 cx.2.1 dL_adjusts_138 (by decide) ?_
                      refine lv_goto (tgt := 143) cx.1 cx.2.1 dL_adjusts_139 (by decide) ?_
                      refine nv_eqi (y := b2i (xCq (Y 5) (nI (65 + lowN g0 5)) (nI rt) k x)) (by first | (simp [xCq, b2i, c_12, c_13, c_14]; done) | (simp [xCq, b2i, c_12, c_13, c_14]; rfl)) ?_
                      exact jn119  ls  hl
          exact lp82 _ 0 (Nat.lt_succ_self _) (by omega) (Or.inl rfl) ls (lv_sub hl [1, 2, 3, 4, 5, 6, 7, 8, 9, 10, 0] (by rw [show (ckN (Y 5) (nI (65 + lowN g0 5)) (nI rt) k || hpN (Y 5) (nI (65 + lowN g0 5)) (nI rt) k 0) = ckN (Y 5) (nI (65 + lowN g0 5)) (nI rt) k from Bool.or_false _]; rfl))
    exact lp69 _ 0 (Nat.lt_succ_self _) (by omega) ls (lv_sub hl [7, 8, 9, 6, 5, 4, 3, 2, 1, 0] rfl)
  refine lv_if_ne (x := g0 &&& 96) (tgt := 22) cx.1 cx.2.1 dL_adjusts_14 (by decide) (fun c_15 => ?_) (fun c_15 => ?_)
  · refine lv_bipush (v := nI 65) cx.1 cx.2.1 dL_adjusts_22 (by decide) ?_
    refine lv_iload_n cx.1 cx.2.1 dL_adjusts_24 rfl (lv_at hl 2 rfl) ?_
    refine lv_bipush (v := nI 7) cx.1 cx.2.1 dL_adjusts_25 (by decide) ?_
    refine lv_ishr (x := g0) (y := 7) cx.1 cx.2.1 dL_adjusts_27 ?_
    refine lv_iconst (v := nI 5) cx.1 cx.2.1 dL_adjusts_28 (by decide) ?_
    refine RO.callS (As := [.int (g0 >>> (7 &&& 31)), .int (nI 5)]) (rest := [.int (nI 65)]) cx (c_L_low l G (g0 >>> (7 &&& 31)) 5 (by omega) (by omega)) gL_adjusts_L_low rfl hd_L_low ⟨Nat.le_of_ble_eq_true rfl, Nat.le_of_ble_eq_true rfl⟩ hK hN va_P.nil rfl hl.1 rfl (Nat.le_of_ble_eq_true rfl) dL_adjusts_29 ⟨Nat.zero_le _, Nat.zero_le _⟩ ?_
    refine nv_iadd cx (a := 65) (b := lowN (g0 >>> (7 &&& 31)) 5) dL_adjusts_32 ?_
    refine lv_i2c (x := nI (65 + (lowN (g0 >>> (7 &&& 31)) 5))) (v := i2c (nI (65 + (lowN (g0 >>> (7 &&& 31)) 5)))) cx.1 cx.2.1 dL_adjusts_33 rfl ?_
    have hg7 := lowN_lt (g0 >>> (7 &&& 31)) (m := 5) (by decide)
    refine nv_eqi (y := nI (65 + lowN (g0 >>> (7 &&& 31)) 5)) (i2c_nn (by omega)) ?_
    exact jn14 (65 + lowN (g0 >>> (7 &&& 31)) 5) ls (by omega) hl
  · refine lv_bipush (v := nI 46) cx.1 cx.2.1 dL_adjusts_17 (by decide) ?_
    refine lv_goto (tgt := 34) cx.1 cx.2.1 dL_adjusts_19 (by decide) ?_
    exact jn14 46 ls (by omega) hl
