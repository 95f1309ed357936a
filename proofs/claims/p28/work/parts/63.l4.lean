/-! ===== specs_l4: laid by program (wip/p28/lay28.py) ===== -/
set_option maxHeartbeats 4000000 in
set_option maxRecDepth 100000 in
theorem c_L_points (l : Launch) (G : GG) (a : Nat → Nat) (AD : Nat → Nat → Nat) (Y : Nat → XS) (k : Nat) (h0 : Int32) (hG : Gd Y) (hk : k < xn (Y 5)) : RO l yL_points wsL_points 7 173 G (plC G a AD Y) [.ref (a 0), .int (nI k), .int h0] (b2i true) := by
  refine RO.start (cc := cL_points) (maxL := 13) (ret := (some .boolean)) (by decide) rfl (Nat.le_of_ble_eq_true rfl) ?_
  intro p e s m below meth c ls cx hr hlocks hK hN hP hl
  have cx : CallFix p m c cL_points 13 s [.ref (a 0), .int (nI k), .int h0].toArray wsL_points RL := cx
  have hl : lv_has ls 13 [(0, .ref (a 0)), (1, .int (nI k)), (2, .int h0)] := hl
  have hok := hG.ok
  have hn20 := hok.n20
  have hp16 := hok.p16
  have hv := hG.v
  obtain ⟨f, hRl⟩ := hG.r
  have hl16 := hok.l16 (show k < 20 by omega)
  have hl1 := hRl.l1 hk
  refine lv_aload_n cx.1 cx.2.1 dL_points_0 rfl (lv_at hl 0 rfl) ?_
  refine RO.callV (As := []) (rest := []) cx (c_X6_size l G a AD Y hok) gL_points_X6_size rfl hd_X6_size ⟨Nat.le_of_ble_eq_true rfl, Nat.le_of_ble_eq_true rfl⟩ (va_recv hK hP (ci := 5) (q0 := 0) rfl rfl) hK hN hP rfl hl.1 rfl (Nat.le_of_ble_eq_true rfl) dL_points_1 ⟨Nat.zero_le _, Nat.zero_le _⟩ ?_
  refine lv_istore_n (lv' := [(3, .int (xSize (Y 5))), (0, .ref (a 0)), (1, .int (nI k)), (2, .int h0)]) cx.1 cx.2.1 dL_points_4 rfl hl (by decide) rfl (fun ls hl => ?_)
  refine lv_iload_n cx.1 cx.2.1 dL_points_5 rfl (lv_at hl 0 rfl) ?_
  have jn6 : ∀ (ls : Array Slot), lv_has ls 13 [(3, .int (xSize (Y 5))), (0, .ref (a 0)), (1, .int (nI k)), (2, .int h0)] → W p l e ({ frames := 7, cells := 0, slots := 0, locals := 173 } : Room) s m [.ref (a 0), .int (nI k), .int h0].toArray below meth c s.heap [] 0 0 (MQ below (vp_Si (fun r => r = (b2i true))) [.ref (a 0), .int (nI k), .int h0].toArray s 0 0 (fun _ => False)) (F0 m 27 ls [.int (lYz (Y 5) k)]) := by
    intro  ls  hl
    refine lv_istore (lv' := [(4, .int (lYz (Y 5) k)), (3, .int (xSize (Y 5))), (0, .ref (a 0)), (1, .int (nI k)), (2, .int h0)]) cx.1 cx.2.1 dL_points_27 hl (by decide) rfl (fun ls hl => ?_)
    refine lv_aload_n cx.1 cx.2.1 dL_points_29 rfl (lv_at hl 2 rfl) ?_
    refine lv_iload_n cx.1 cx.2.1 dL_points_30 rfl (lv_at hl 3 rfl) ?_
    refine lv_iconst (v := nI 0) cx.1 cx.2.1 dL_points_31 (by decide) ?_
    refine RO.callV (As := [.int (nI k), .int 0]) (rest := []) cx (c_X6_name l G a AD Y (nI k) 0 hok) gL_points_X6_name rfl hd_X6_name ⟨Nat.le_of_ble_eq_true rfl, Nat.le_of_ble_eq_true rfl⟩ (va_recv hK hP (ci := 5) (q0 := 0) rfl rfl) hK hN hP rfl hl.1 rfl (Nat.le_of_ble_eq_true rfl) dL_points_32 ⟨Nat.zero_le _, Nat.zero_le _⟩ ?_
    refine nv_eqi (y := nI (xl (Y 5) k)) (nm0 hok (by omega)) ?_
    refine lv_istore (lv' := [(5, .int (nI (xl (Y 5) k))), (4, .int (lYz (Y 5) k)), (3, .int (xSize (Y 5))), (0, .ref (a 0)), (1, .int (nI k)), (2, .int h0)]) cx.1 cx.2.1 dL_points_35 hl (by decide) rfl (fun ls hl => ?_)
    refine lv_iconst (v := nI 0) cx.1 cx.2.1 dL_points_37 (by decide) ?_
    refine lv_istore (lv' := [(6, .int (nI 0)), (5, .int (nI (xl (Y 5) k))), (4, .int (lYz (Y 5) k)), (3, .int (xSize (Y 5))), (0, .ref (a 0)), (1, .int (nI k)), (2, .int h0)]) cx.1 cx.2.1 dL_points_38 hl (by decide) rfl (fun ls hl => ?_)
    have lp40 : ∀ (r : Nat) (lk : Nat) (hr9 : 2 - lk < r) (hi : lk ≤ 2) (ls : Array Slot), lv_has ls 13 [(0, .ref (a 0)), (1, .int (nI k)), (2, .int h0), (3, .int (xSize (Y 5))), (4, .int (lYz (Y 5) k)), (5, .int (nI (xl (Y 5) k))), (6, .int (nI lk))] → W p l e ({ frames := 7, cells := 0, slots := 0, locals := 173 } : Room) s m [.ref (a 0), .int (nI k), .int h0].toArray below meth c s.heap [] 0 0 (MQ below (vp_Si (fun r => r = (b2i true))) [.ref (a 0), .int (nI k), .int h0].toArray s 0 0 (fun _ => False)) (F0 m 40 ls []) := by
      intro r
      induction r with
      | zero => intro lk hr9; exact absurd hr9 (Nat.not_lt_zero _)
      | succ r ih40 =>
        intro lk hr9 hi ls hl
        refine lv_iload_n cx.1 cx.2.1 dL_points_40 rfl (lv_at hl 3 rfl) ?_
        refine lv_if_le (x := xSize (Y 5)) (tgt := 219) cx.1 cx.2.1 dL_points_41 (by decide) (fun c_1 => ?_) (fun c_1 => ?_)
        · refine lv_aload_n cx.1 cx.2.1 dL_points_219 rfl (lv_at hl 0 rfl) ?_
          refine lv_iconst (v := (-1)) cx.1 cx.2.1 dL_points_220 (by decide) ?_
          refine lv_iconst (v := nI 0) cx.1 cx.2.1 dL_points_221 (by decide) ?_
          refine RO.callV (As := [.int (-1), .int 0]) (rest := []) cx (c_X6_signAt l G a AD Y (-1) 0 hok) gL_points_X6_signAt rfl hd_X6_signAt ⟨Nat.le_of_ble_eq_true rfl, Nat.le_of_ble_eq_true rfl⟩ (va_recv hK hP (ci := 5) (q0 := 0) rfl rfl) hK hN hP rfl hl.1 rfl (Nat.le_of_ble_eq_true rfl) dL_points_222 ⟨Nat.zero_le _, Nat.zero_le _⟩ ?_
          refine nv_eqi (y := (-1002)) (if_pos (Or.inl (by decide))) ?_
          refine lv_sipush (v := (-1002)) cx.1 cx.2.1 dL_points_225 (by decide) ?_
          refine lv_icmp_ne (x := (-1002)) (y := (-1002)) (tgt := 253) cx.1 cx.2.1 dL_points_228 (by decide) (fun c_2 => ?_) (fun c_2 => ?_)
          · exact absurd rfl c_2
          · refine lv_iload_n cx.1 cx.2.1 dL_points_231 rfl (lv_at hl 3 rfl) ?_
            refine lv_if_gt (x := xSize (Y 5)) (tgt := 249) cx.1 cx.2.1 dL_points_232 (by decide) (fun c_3 => ?_) (fun c_3 => ?_)
            · refine lv_iconst (v := nI 1) cx.1 cx.2.1 dL_points_249 (by decide) ?_
              refine lv_goto (tgt := 254) cx.1 cx.2.1 dL_points_250 (by decide) ?_
              exact RO.retz (b := true) (x := 1) cx hr hlocks dL_points_254 (by rfl) rfl
            · have hz9 : ¬ 0 < xSize (Y 5) := c_3
              refine lv_aload_n cx.1 cx.2.1 dL_points_235 rfl (lv_at hl 0 rfl) ?_
              refine lv_bipush (v := nI 30) cx.1 cx.2.1 dL_points_236 (by decide) ?_
              refine lv_bipush (v := nI 30) cx.1 cx.2.1 dL_points_238 (by decide) ?_
              refine RO.callV (As := [.int 30, .int 30]) (rest := []) cx (c_X6_signAt l G a AD Y 30 30 hok) gL_points_X6_signAt rfl hd_X6_signAt ⟨Nat.le_of_ble_eq_true rfl, Nat.le_of_ble_eq_true rfl⟩ (va_recv hK hP (ci := 5) (q0 := 0) rfl rfl) hK hN hP rfl hl.1 rfl (Nat.le_of_ble_eq_true rfl) dL_points_240 ⟨Nat.zero_le _, Nat.zero_le _⟩ ?_
              refine nv_eqi (y := (-1005)) (at_0 hRl hz9) ?_
              refine lv_sipush (v := (-1005)) cx.1 cx.2.1 dL_points_243 (by decide) ?_
              refine lv_icmp_ne (x := (-1005)) (y := (-1005)) (tgt := 253) cx.1 cx.2.1 dL_points_246 (by decide) (fun c_4 => ?_) (fun c_4 => ?_)
              · exact absurd rfl c_4
              · refine lv_iconst (v := nI 1) cx.1 cx.2.1 dL_points_249 (by decide) ?_
                refine lv_goto (tgt := 254) cx.1 cx.2.1 dL_points_250 (by decide) ?_
                exact RO.retz (b := true) (x := 1) cx hr hlocks dL_points_254 (by rfl) rfl
        · have hzp : ¬ xSize (Y 5) ≤ 0 := c_1
          have hz1 : ¬ xSize (Y 5) = 0 := fun e => hzp (by rw [e]; exact Int32.le_refl _)
          have hyz : lYz (Y 5) k = lY (Y 5) k := if_neg hz1
          refine lv_iload cx.1 cx.2.1 dL_points_44 (lv_at hl 6 rfl) ?_
          refine lv_iconst (v := nI 2) cx.1 cx.2.1 dL_points_46 (by decide) ?_
          refine nv_icmp_ge (a := lk) (b := 2) (tgt := 219) cx dL_points_47 (by decide) (by omega) (by omega) (fun c_5 => ?_) (fun c_5 => ?_)
          · refine lv_aload_n cx.1 cx.2.1 dL_points_219 rfl (lv_at hl 0 rfl) ?_
            refine lv_iconst (v := (-1)) cx.1 cx.2.1 dL_points_220 (by decide) ?_
            refine lv_iconst (v := nI 0) cx.1 cx.2.1 dL_points_221 (by decide) ?_
            refine RO.callV (As := [.int (-1), .int 0]) (rest := []) cx (c_X6_signAt l G a AD Y (-1) 0 hok) gL_points_X6_signAt rfl hd_X6_signAt ⟨Nat.le_of_ble_eq_true rfl, Nat.le_of_ble_eq_true rfl⟩ (va_recv hK hP (ci := 5) (q0 := 0) rfl rfl) hK hN hP rfl hl.1 rfl (Nat.le_of_ble_eq_true rfl) dL_points_222 ⟨Nat.zero_le _, Nat.zero_le _⟩ ?_
            refine nv_eqi (y := (-1002)) (if_pos (Or.inl (by decide))) ?_
            refine lv_sipush (v := (-1002)) cx.1 cx.2.1 dL_points_225 (by decide) ?_
            refine lv_icmp_ne (x := (-1002)) (y := (-1002)) (tgt := 253) cx.1 cx.2.1 dL_points_228 (by decide) (fun c_6 => ?_) (fun c_6 => ?_)
            · exact absurd rfl c_6
            · refine lv_iload_n cx.1 cx.2.1 dL_points_231 rfl (lv_at hl 3 rfl) ?_
              refine lv_if_gt (x := xSize (Y 5)) (tgt := 249) cx.1 cx.2.1 dL_points_232 (by decide) (fun c_7 => ?_) (fun c_7 => ?_)
              · refine lv_iconst (v := nI 1) cx.1 cx.2.1 dL_points_249 (by decide) ?_
                refine lv_goto (tgt := 254) cx.1 cx.2.1 dL_points_250 (by decide) ?_
                exact RO.retz (b := true) (x := 1) cx hr hlocks dL_points_254 (by rfl) rfl
              · have hz9 : ¬ 0 < xSize (Y 5) := c_7
                refine lv_aload_n cx.1 cx.2.1 dL_points_235 rfl (lv_at hl 0 rfl) ?_
                refine lv_bipush (v := nI 30) cx.1 cx.2.1 dL_points_236 (by decide) ?_
                refine lv_bipush (v := nI 30) cx.1 cx.2.1 dL_points_238 (by decide) ?_
                refine RO.callV (As := [.int 30, .int 30]) (rest := []) cx (c_X6_signAt l G a AD Y 30 30 hok) gL_points_X6_signAt rfl hd_X6_signAt ⟨Nat.le_of_ble_eq_true rfl, Nat.le_of_ble_eq_true rfl⟩ (va_recv hK hP (ci := 5) (q0 := 0) rfl rfl) hK hN hP rfl hl.1 rfl (Nat.le_of_ble_eq_true rfl) dL_points_240 ⟨Nat.zero_le _, Nat.zero_le _⟩ ?_
                refine nv_eqi (y := (-1005)) (at_0 hRl hz9) ?_
                refine lv_sipush (v := (-1005)) cx.1 cx.2.1 dL_points_243 (by decide) ?_
                refine lv_icmp_ne (x := (-1005)) (y := (-1005)) (tgt := 253) cx.1 cx.2.1 dL_points_246 (by decide) (fun c_8 => ?_) (fun c_8 => ?_)
                · exact absurd rfl c_8
                · refine lv_iconst (v := nI 1) cx.1 cx.2.1 dL_points_249 (by decide) ?_
                  refine lv_goto (tgt := 254) cx.1 cx.2.1 dL_points_250 (by decide) ?_
                  exact RO.retz (b := true) (x := 1) cx hr hlocks dL_points_254 (by rfl) rfl
          · refine lv_iload cx.1 cx.2.1 dL_points_50 (lv_at hl 6 rfl) ?_
            have jn52 : ∀ (x : Nat) (ls : Array Slot), x < xl (Y 5) k → lv_has ls 13 [(0, .ref (a 0)), (1, .int (nI k)), (2, .int h0), (3, .int (xSize (Y 5))), (4, .int (lYz (Y 5) k)), (5, .int (nI (xl (Y 5) k))), (6, .int (nI lk))] → W p l e ({ frames := 7, cells := 0, slots := 0, locals := 173 } : Room) s m [.ref (a 0), .int (nI k), .int h0].toArray below meth c s.heap [] 0 0 (MQ below (vp_Si (fun r => r = (b2i true))) [.ref (a 0), .int (nI k), .int h0].toArray s 0 0 (fun _ => False)) (F0 m 68 ls [.int (nI x)]) := by
              intro x ls hx hl
              refine lv_istore (lv' := [(7, .int (nI x)), (0, .ref (a 0)), (1, .int (nI k)), (2, .int h0), (3, .int (xSize (Y 5))), (4, .int (lYz (Y 5) k)), (5, .int (nI (xl (Y 5) k))), (6, .int (nI lk))]) cx.1 cx.2.1 dL_points_68 hl (by decide) rfl (fun ls hl => ?_)
              refine lv_aload_n cx.1 cx.2.1 dL_points_70 rfl (lv_at hl 1 rfl) ?_
              refine lv_iload_n cx.1 cx.2.1 dL_points_71 rfl (lv_at hl 2 rfl) ?_
              refine lv_iload cx.1 cx.2.1 dL_points_72 (lv_at hl 0 rfl) ?_
              refine lv_iconst (v := nI 5) cx.1 cx.2.1 dL_points_74 (by decide) ?_
              refine RO.callV (As := [.int (nI k), .int (nI x), .int 5]) (rest := []) cx (c_X6_sign l G a AD Y (nI k) (nI x) 5 hok) gL_points_X6_sign rfl hd_X6_sign ⟨Nat.le_of_ble_eq_true rfl, Nat.le_of_ble_eq_true rfl⟩ (va_recv hK hP (ci := 5) (q0 := 0) rfl rfl) hK hN hP rfl hl.1 rfl (Nat.le_of_ble_eq_true rfl) dL_points_75 ⟨Nat.zero_le _, Nat.zero_le _⟩ ?_
              refine nv_eqi (y := ySb (Y 5) k x (xSize (Y 5))) (sg5 hok (by omega) (by omega)) ?_
              refine nv_eqi (y := xFr (Y 5) k (xSize (Y 5)) x) (sb_e hz1) ?_
              refine lv_istore (lv' := [(8, .int (xFr (Y 5) k (xSize (Y 5)) x)), (7, .int (nI x)), (0, .ref (a 0)), (1, .int (nI k)), (2, .int h0), (3, .int (xSize (Y 5))), (4, .int (lYz (Y 5) k)), (5, .int (nI (xl (Y 5) k))), (6, .int (nI lk))]) cx.1 cx.2.1 dL_points_78 hl (by decide) rfl (fun ls hl => ?_)
              refine lv_iload cx.1 cx.2.1 dL_points_80 (lv_at hl 0 rfl) ?_
              refine lv_iload_n cx.1 cx.2.1 dL_points_82 rfl (lv_at hl 5 rfl) ?_
              refine lv_aload_n cx.1 cx.2.1 dL_points_83 rfl (lv_at hl 2 rfl) ?_
              refine lv_iload_n cx.1 cx.2.1 dL_points_84 rfl (lv_at hl 3 rfl) ?_
              refine lv_iload cx.1 cx.2.1 dL_points_85 (lv_at hl 1 rfl) ?_
              refine lv_iconst (v := nI 2) cx.1 cx.2.1 dL_points_87 (by decide) ?_
              refine RO.callV (As := [.int (nI k), .int (nI x), .int 2]) (rest := [.int (xSize (Y 5)), .int (xFr (Y 5) k (xSize (Y 5)) x)]) cx (c_X6_sign l G a AD Y (nI k) (nI x) 2 hok) gL_points_X6_sign rfl hd_X6_sign ⟨Nat.le_of_ble_eq_true rfl, Nat.le_of_ble_eq_true rfl⟩ (va_recv hK hP (ci := 5) (q0 := 0) rfl rfl) hK hN hP rfl hl.1 rfl (Nat.le_of_ble_eq_true rfl) dL_points_88 ⟨Nat.zero_le _, Nat.zero_le _⟩ ?_
              refine nv_eqi (y := xW (xSg (Y 5) k x)) (sg2 hok (by omega) (by omega)) ?_
              refine lv_imul (x := xSize (Y 5)) (y := xW (xSg (Y 5) k x)) cx.1 cx.2.1 dL_points_91 ?_
              refine lv_iadd (x := xFr (Y 5) k (xSize (Y 5)) x) (y := (xSize (Y 5)) * (xW (xSg (Y 5) k x))) cx.1 cx.2.1 dL_points_92 ?_
              refine lv_istore (lv' := [(9, .int ((xFr (Y 5) k (xSize (Y 5)) x) + ((xSize (Y 5)) * (xW (xSg (Y 5) k x))))), (8, .int (xFr (Y 5) k (xSize (Y 5)) x)), (7, .int (nI x)), (0, .ref (a 0)), (1, .int (nI k)), (2, .int h0), (3, .int (xSize (Y 5))), (4, .int (lYz (Y 5) k)), (5, .int (nI (xl (Y 5) k))), (6, .int (nI lk))]) cx.1 cx.2.1 dL_points_93 hl (by decide) rfl (fun ls hl => ?_)
              refine lv_aload_n cx.1 cx.2.1 dL_points_95 rfl (lv_at hl 3 rfl) ?_
              refine lv_iload cx.1 cx.2.1 dL_points_96 (lv_at hl 1 rfl) ?_
              refine lv_iload cx.1 cx.2.1 dL_points_98 (lv_at hl 7 rfl) ?_
              refine RO.callV (As := [.int (xFr (Y 5) k (xSize (Y 5)) x), .int (lYz (Y 5) k)]) (rest := []) cx (c_X6_signAt l G a AD Y (xFr (Y 5) k (xSize (Y 5)) x) (lYz (Y 5) k) hok) gL_points_X6_signAt rfl hd_X6_signAt ⟨Nat.le_of_ble_eq_true rfl, Nat.le_of_ble_eq_true rfl⟩ (va_recv hK hP (ci := 5) (q0 := 0) rfl rfl) hK hN hP rfl hl.1 rfl (Nat.le_of_ble_eq_true rfl) dL_points_100 ⟨Nat.zero_le _, Nat.zero_le _⟩ ?_
              obtain ⟨ta, ia, ta1, ia1, ea1, ea2⟩ := pt_in hRl hk hx hzp (pt_from hRl hk hx hzp).1
              refine nv_eqi (y := nI (100 * ta + ia)) (by rw [hyz]; exact ea1) ?_
              refine lv_istore (lv' := [(10, .int (nI (100 * ta + ia))), (9, .int ((xFr (Y 5) k (xSize (Y 5)) x) + ((xSize (Y 5)) * (xW (xSg (Y 5) k x))))), (8, .int (xFr (Y 5) k (xSize (Y 5)) x)), (7, .int (nI x)), (0, .ref (a 0)), (1, .int (nI k)), (2, .int h0), (3, .int (xSize (Y 5))), (4, .int (lYz (Y 5) k)), (5, .int (nI (xl (Y 5) k))), (6, .int (nI lk))]) cx.1 cx.2.1 dL_points_103 hl (by decide) rfl (fun ls hl => ?_)
              refine lv_aload_n cx.1 cx.2.1 dL_points_105 rfl (lv_at hl 4 rfl) ?_
              refine lv_iload cx.1 cx.2.1 dL_points_106 (lv_at hl 1 rfl) ?_
              refine lv_iconst (v := nI 1) cx.1 cx.2.1 dL_points_108 (by decide) ?_
              refine lv_isub (x := (xFr (Y 5) k (xSize (Y 5)) x) + ((xSize (Y 5)) * (xW (xSg (Y 5) k x)))) (y := 1) cx.1 cx.2.1 dL_points_109 ?_
              refine lv_iload cx.1 cx.2.1 dL_points_110 (lv_at hl 8 rfl) ?_
              refine RO.callV (As := [.int (((xFr (Y 5) k (xSize (Y 5)) x) + ((xSize (Y 5)) * (xW (xSg (Y 5) k x)))) - 1), .int (lYz (Y 5) k)]) (rest := []) cx (c_X6_signAt l G a AD Y (((xFr (Y 5) k (xSize (Y 5)) x) + ((xSize (Y 5)) * (xW (xSg (Y 5) k x)))) - 1) (lYz (Y 5) k) hok) gL_points_X6_signAt rfl hd_X6_signAt ⟨Nat.le_of_ble_eq_true rfl, Nat.le_of_ble_eq_true rfl⟩ (va_recv hK hP (ci := 5) (q0 := 0) rfl rfl) hK hN hP rfl hl.1 rfl (Nat.le_of_ble_eq_true rfl) dL_points_112 ⟨Nat.zero_le _, Nat.zero_le _⟩ ?_
              obtain ⟨tb, ib, tb1, ib1, eb1, eb2⟩ := pt_in hRl hk hx hzp (pt_from hRl hk hx hzp).2.1
              refine nv_eqi (y := nI (100 * tb + ib)) (by rw [hyz]; exact eb1) ?_
              refine lv_istore (lv' := [(11, .int (nI (100 * tb + ib))), (10, .int (nI (100 * ta + ia))), (9, .int ((xFr (Y 5) k (xSize (Y 5)) x) + ((xSize (Y 5)) * (xW (xSg (Y 5) k x))))), (8, .int (xFr (Y 5) k (xSize (Y 5)) x)), (7, .int (nI x)), (0, .ref (a 0)), (1, .int (nI k)), (2, .int h0), (3, .int (xSize (Y 5))), (4, .int (lYz (Y 5) k)), (5, .int (nI (xl (Y 5) k))), (6, .int (nI lk))]) cx.1 cx.2.1 dL_points_115 hl (by decide) rfl (fun ls hl => ?_)
              refine lv_iload cx.1 cx.2.1 dL_points_117 (lv_at hl 1 rfl) ?_
              refine lv_bipush (v := nI 100) cx.1 cx.2.1 dL_points_119 (by decide) ?_
              refine lv_idiv (x := nI (100 * ta + ia)) (y := 100) cx.1 cx.2.1 dL_points_121 (by decide) ?_
              refine nv_eqi (y := nI ta) (d100 (by omega) ia1) ?_
              refine lv_iload_n cx.1 cx.2.1 dL_points_122 rfl (lv_at hl 6 rfl) ?_
              refine nv_icmp_gt (a := ta) (b := k) (tgt := 187) cx dL_points_123 (by decide) (by omega) (by omega) (fun c_9 => ?_) (fun c_9 => ?_)
              · exact absurd c_9 (by omega)
              · refine lv_iload cx.1 cx.2.1 dL_points_126 (lv_at hl 0 rfl) ?_
                refine lv_bipush (v := nI 100) cx.1 cx.2.1 dL_points_128 (by decide) ?_
                refine lv_idiv (x := nI (100 * tb + ib)) (y := 100) cx.1 cx.2.1 dL_points_130 (by decide) ?_
                refine nv_eqi (y := nI tb) (d100 (by omega) ib1) ?_
                refine lv_iload_n cx.1 cx.2.1 dL_points_131 rfl (lv_at hl 6 rfl) ?_
                refine nv_icmp_gt (a := tb) (b := k) (tgt := 187) cx dL_points_132 (by decide) (by omega) (by omega) (fun c_10 => ?_) (fun c_10 => ?_)
                · exact absurd c_10 (by omega)
                · refine lv_iload cx.1 cx.2.1 dL_points_135 (lv_at hl 1 rfl) ?_
                  refine lv_bipush (v := nI 100) cx.1 cx.2.1 dL_points_137 (by decide) ?_
                  refine lv_idiv (x := nI (100 * ta + ia)) (y := 100) cx.1 cx.2.1 dL_points_139 (by decide) ?_
                  refine nv_eqi (y := nI ta) (d100 (by omega) ia1) ?_
                  refine lv_iload_n cx.1 cx.2.1 dL_points_140 rfl (lv_at hl 6 rfl) ?_
                  have jn141 : ∀ (ls : Array Slot), lv_has ls 13 [(11, .int (nI (100 * tb + ib))), (10, .int (nI (100 * ta + ia))), (9, .int ((xFr (Y 5) k (xSize (Y 5)) x) + ((xSize (Y 5)) * (xW (xSg (Y 5) k x))))), (8, .int (xFr (Y 5) k (xSize (Y 5)) x)), (7, .int (nI x)), (0, .ref (a 0)), (1, .int (nI k)), (2, .int h0), (3, .int (xSize (Y 5))), (4, .int (lYz (Y 5) k)), (5, .int (nI (xl (Y 5) k))), (6, .int (nI lk))] → W p l e ({ frames := 7, cells := 0, slots := 0, locals := 173 } : Room) s m [.ref (a 0), .int (nI k), .int h0].toArray below meth c s.heap [] 0 0 (MQ below (vp_Si (fun r => r = (b2i true))) [.ref (a 0), .int (nI k), .int h0].toArray s 0 0 (fun _ => False)) (F0 m 156 ls []) := by
                    intro  ls  hl
                    refine lv_iload cx.1 cx.2.1 dL_points_156 (lv_at hl 0 rfl) ?_
                    refine lv_bipush (v := nI 100) cx.1 cx.2.1 dL_points_158 (by decide) ?_
                    refine lv_idiv (x := nI (100 * tb + ib)) (y := 100) cx.1 cx.2.1 dL_points_160 (by decide) ?_
                    refine nv_eqi (y := nI tb) (d100 (by omega) ib1) ?_
                    refine lv_iload_n cx.1 cx.2.1 dL_points_161 rfl (lv_at hl 6 rfl) ?_
                    have jn162 : ∀ (ls : Array Slot), lv_has ls 13 [(11, .int (nI (100 * tb + ib))), (10, .int (nI (100 * ta + ia))), (9, .int ((xFr (Y 5) k (xSize (Y 5)) x) + ((xSize (Y 5)) * (xW (xSg (Y 5) k x))))), (8, .int (xFr (Y 5) k (xSize (Y 5)) x)), (7, .int (nI x)), (0, .ref (a 0)), (1, .int (nI k)), (2, .int h0), (3, .int (xSize (Y 5))), (4, .int (lYz (Y 5) k)), (5, .int (nI (xl (Y 5) k))), (6, .int (nI lk))] → W p l e ({ frames := 7, cells := 0, slots := 0, locals := 173 } : Room) s m [.ref (a 0), .int (nI k), .int h0].toArray below meth c s.heap [] 0 0 (MQ below (vp_Si (fun r => r = (b2i true))) [.ref (a 0), .int (nI k), .int h0].toArray s 0 0 (fun _ => False)) (F0 m 177 ls []) := by
                      intro  ls  hl
                      refine lv_iload cx.1 cx.2.1 dL_points_177 (lv_at hl 1 rfl) ?_
                      refine nv_if_lt (a := 100 * ta + ia) cx dL_points_179 (tgt := 187) (by decide) (by omega) ?_
                      refine lv_iload cx.1 cx.2.1 dL_points_182 (lv_at hl 0 rfl) ?_
                      refine nv_if_ge (a := 100 * tb + ib) cx dL_points_184 (tgt := 189) (by decide) (by omega) ?_
                      refine lv_aload_n cx.1 cx.2.1 dL_points_189 rfl (lv_at hl 5 rfl) ?_
                      refine lv_iload cx.1 cx.2.1 dL_points_190 (lv_at hl 2 rfl) ?_
                      refine lv_iload cx.1 cx.2.1 dL_points_192 (lv_at hl 9 rfl) ?_
                      refine RO.callV (As := [.int ((xFr (Y 5) k (xSize (Y 5)) x) + ((xSize (Y 5)) * (xW (xSg (Y 5) k x)))), .int (lYz (Y 5) k)]) (rest := []) cx (c_X6_signAt l G a AD Y ((xFr (Y 5) k (xSize (Y 5)) x) + ((xSize (Y 5)) * (xW (xSg (Y 5) k x)))) (lYz (Y 5) k) hok) gL_points_X6_signAt rfl hd_X6_signAt ⟨Nat.le_of_ble_eq_true rfl, Nat.le_of_ble_eq_true rfl⟩ (va_recv hK hP (ci := 5) (q0 := 0) rfl rfl) hK hN hP rfl hl.1 rfl (Nat.le_of_ble_eq_true rfl) dL_points_194 ⟨Nat.zero_le _, Nat.zero_le _⟩ ?_
                      refine lv_istore (lv' := [(12, .int (yAt (Y 5) ((xFr (Y 5) k (xSize (Y 5)) x) + ((xSize (Y 5)) * (xW (xSg (Y 5) k x)))) (lYz (Y 5) k))), (11, .int (nI (100 * tb + ib))), (10, .int (nI (100 * ta + ia))), (9, .int ((xFr (Y 5) k (xSize (Y 5)) x) + ((xSize (Y 5)) * (xW (xSg (Y 5) k x))))), (8, .int (xFr (Y 5) k (xSize (Y 5)) x)), (7, .int (nI x)), (0, .ref (a 0)), (1, .int (nI k)), (2, .int h0), (3, .int (xSize (Y 5))), (4, .int (lYz (Y 5) k)), (5, .int (nI (xl (Y 5) k))), (6, .int (nI lk))]) cx.1 cx.2.1 dL_points_197 hl (by decide) rfl (fun ls hl => ?_)
                      refine lv_iload cx.1 cx.2.1 dL_points_199 (lv_at hl 0 rfl) ?_
                      refine lv_bipush (v := nI 100) cx.1 cx.2.1 dL_points_201 (by decide) ?_
                      refine lv_iload_n cx.1 cx.2.1 dL_points_203 rfl (lv_at hl 7 rfl) ?_
                      refine nv_imul cx (a := 100) (b := k) dL_points_204 ?_
                      refine lv_iload cx.1 cx.2.1 dL_points_205 (lv_at hl 5 rfl) ?_
                      refine nv_iadd cx (a := 100 * k) (b := x) dL_points_207 ?_
                      refine lv_icmp_ne (x := yAt (Y 5) ((xFr (Y 5) k (xSize (Y 5)) x) + ((xSize (Y 5)) * (xW (xSg (Y 5) k x)))) (lYz (Y 5) k)) (y := nI (100 * k + x)) (tgt := 213) cx.1 cx.2.1 dL_points_208 (by decide) (fun c_11 => ?_) (fun c_11 => ?_)
                      · refine lv_iinc (v := nI (lk + 1)) (lv' := [(6, .int (nI (lk + 1))), (12, .int (yAt (Y 5) ((xFr (Y 5) k (xSize (Y 5)) x) + ((xSize (Y 5)) * (xW (xSg (Y 5) k x)))) (lYz (Y 5) k))), (11, .int (nI (100 * tb + ib))), (10, .int (nI (100 * ta + ia))), (9, .int ((xFr (Y 5) k (xSize (Y 5)) x) + ((xSize (Y 5)) * (xW (xSg (Y 5) k x))))), (8, .int (xFr (Y 5) k (xSize (Y 5)) x)), (7, .int (nI x)), (0, .ref (a 0)), (1, .int (nI k)), (2, .int h0), (3, .int (xSize (Y 5))), (4, .int (lYz (Y 5) k)), (5, .int (nI (xl (Y 5) k)))]) cx.1 cx.2.1 dL_points_213 hl (k := 12) rfl (show nI lk + Int32.ofInt 1 = nI (lk + 1) from nI_add lk 1) (by decide) rfl (fun ls hl => ?_)
                        refine lv_goto (tgt := 40) cx.1 cx.2.1 dL_points_216 (by decide) ?_
                        exact ih40 (lk + 1) (by omega) (by omega) ls (lv_sub hl [7, 8, 9, 10, 11, 12, 0] rfl)
                      · exact absurd c_11 (by rw [hyz]; exact pt_end hRl hk hx hzp (pt_from hRl hk hx hzp).2.2.2 (pt_from hRl hk hx hzp).2.2.1)
                    refine nv_icmp_ne (a := tb) (b := k) (tgt := 177) cx dL_points_162 (by decide) (by omega) (by omega) (fun c_12 => ?_) (fun c_12 => ?_)
                    · exact jn162  ls  hl
                    · have hib := eb2 c_12
                      refine lv_iload cx.1 cx.2.1 dL_points_165 (lv_at hl 0 rfl) ?_
                      refine lv_bipush (v := nI 100) cx.1 cx.2.1 dL_points_167 (by decide) ?_
                      refine lv_iload_n cx.1 cx.2.1 dL_points_169 rfl (lv_at hl 6 rfl) ?_
                      refine nv_imul cx (a := 100) (b := k) dL_points_170 ?_
                      refine lv_iload cx.1 cx.2.1 dL_points_171 (lv_at hl 4 rfl) ?_
                      refine nv_iadd cx (a := 100 * k) (b := x) dL_points_173 ?_
                      refine nv_icmp_ne (a := 100 * tb + ib) (b := 100 * k + x) (tgt := 187) cx dL_points_174 (by decide) (by omega) (by omega) (fun c_13 => ?_) (fun c_13 => ?_)
                      · exact absurd c_13 (by omega)
                      · exact jn162  ls  hl
                  refine nv_icmp_ne (a := ta) (b := k) (tgt := 156) cx dL_points_141 (by decide) (by omega) (by omega) (fun c_14 => ?_) (fun c_14 => ?_)
                  · exact jn141  ls  hl
                  · have hia := ea2 c_14
                    refine lv_iload cx.1 cx.2.1 dL_points_144 (lv_at hl 1 rfl) ?_
                    refine lv_bipush (v := nI 100) cx.1 cx.2.1 dL_points_146 (by decide) ?_
                    refine lv_iload_n cx.1 cx.2.1 dL_points_148 rfl (lv_at hl 6 rfl) ?_
                    refine nv_imul cx (a := 100) (b := k) dL_points_149 ?_
                    refine lv_iload cx.1 cx.2.1 dL_points_150 (lv_at hl 4 rfl) ?_
                    refine nv_iadd cx (a := 100 * k) (b := x) dL_points_152 ?_
                    refine nv_icmp_ne (a := 100 * ta + ia) (b := 100 * k + x) (tgt := 187) cx dL_points_153 (by decide) (by omega) (by omega) (fun c_15 => ?_) (fun c_15 => ?_)
                    · exact absurd c_15 (by omega)
                    · exact jn141  ls  hl
            refine nv_if_ne (a := lk) (tgt := 62) cx dL_points_52 (by decide) (by omega) (fun c_16 => ?_) (fun c_16 => ?_)
            · refine lv_iload_n cx.1 cx.2.1 dL_points_62 rfl (lv_at hl 2 rfl) ?_
              refine lv_iload cx.1 cx.2.1 dL_points_63 (lv_at hl 5 rfl) ?_
              refine RO.callS (As := [.int h0, .int (nI (xl (Y 5) k))]) (rest := []) cx (c_L_low l G h0 (xl (Y 5) k) (by omega) (by omega)) gL_points_L_low rfl hd_L_low ⟨Nat.le_of_ble_eq_true rfl, Nat.le_of_ble_eq_true rfl⟩ hK hN va_P.nil rfl hl.1 rfl (Nat.le_of_ble_eq_true rfl) dL_points_65 ⟨Nat.zero_le _, Nat.zero_le _⟩ ?_
              exact jn52 (lowN h0 (xl (Y 5) k)) ls (by first | omega | exact lowN_lt _ (by omega)) hl
            · refine lv_iload cx.1 cx.2.1 dL_points_55 (lv_at hl 5 rfl) ?_
              refine lv_iconst (v := nI 1) cx.1 cx.2.1 dL_points_57 (by decide) ?_
              refine nv_isub cx (a := xl (Y 5) k) (b := 1) (by omega) dL_points_58 ?_
              refine lv_goto (tgt := 68) cx.1 cx.2.1 dL_points_59 (by decide) ?_
              exact jn52 (xl (Y 5) k - 1) ls (by first | omega | exact lowN_lt _ (by omega)) hl
    exact lp40 _ 0 (Nat.lt_succ_self _) (by omega) ls (lv_sub hl [4, 5, 6, 3, 2, 1, 0] rfl)
  refine lv_if_ne (x := xSize (Y 5)) (tgt := 13) cx.1 cx.2.1 dL_points_6 (by decide) (fun c_17 => ?_) (fun c_17 => ?_)
  · have hz1 : ¬ xSize (Y 5) = 0 := c_17
    refine lv_aload_n cx.1 cx.2.1 dL_points_13 rfl (lv_at hl 1 rfl) ?_
    refine lv_iload_n cx.1 cx.2.1 dL_points_14 rfl (lv_at hl 2 rfl) ?_
    refine lv_bipush (v := nI 6) cx.1 cx.2.1 dL_points_15 (by decide) ?_
    refine RO.callV (As := [.int (nI k), .int 6]) (rest := []) cx (c_X6_name l G a AD Y (nI k) 6 hok) gL_points_X6_name rfl hd_X6_name ⟨Nat.le_of_ble_eq_true rfl, Nat.le_of_ble_eq_true rfl⟩ (va_recv hK hP (ci := 5) (q0 := 0) rfl rfl) hK hN hP rfl hl.1 rfl (Nat.le_of_ble_eq_true rfl) dL_points_17 ⟨Nat.zero_le _, Nat.zero_le _⟩ ?_
    refine nv_eqi (y := xRb (Y 5) k (xSize (Y 5))) ((nm6 hok hk).trans (if_neg hz1)) ?_
    refine lv_bipush (v := nI 12) cx.1 cx.2.1 dL_points_20 (by decide) ?_
    refine lv_iload_n cx.1 cx.2.1 dL_points_22 rfl (lv_at hl 0 rfl) ?_
    refine lv_imul (x := 12) (y := xSize (Y 5)) cx.1 cx.2.1 dL_points_23 ?_
    refine lv_iadd (x := xRb (Y 5) k (xSize (Y 5))) (y := 12 * (xSize (Y 5))) cx.1 cx.2.1 dL_points_24 ?_
    refine lv_iconst (v := nI 1) cx.1 cx.2.1 dL_points_25 (by decide) ?_
    refine lv_isub (x := (xRb (Y 5) k (xSize (Y 5))) + (12 * (xSize (Y 5)))) (y := 1) cx.1 cx.2.1 dL_points_26 ?_
    refine nv_eqi (y := lYz (Y 5) k) (by first | exact (if_pos c_17 : lYz (Y 5) k = 0).symm | exact (if_neg c_17 : lYz (Y 5) k = lY (Y 5) k).symm) ?_
    exact jn6  ls  hl
  · refine lv_iconst (v := nI 0) cx.1 cx.2.1 dL_points_9 (by decide) ?_
    refine lv_goto (tgt := 27) cx.1 cx.2.1 dL_points_10 (by decide) ?_
    refine nv_eqi (y := lYz (Y 5) k) (by first | exact (if_pos c_17 : lYz (Y 5) k = 0).symm | exact (if_neg c_17 : lYz (Y 5) k = lY (Y 5) k).symm) ?_
    exact jn6  ls  hl
