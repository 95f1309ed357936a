/-! ===== specs_l2: laid by program (wip/p28/lay28.py) ===== -/
set_option maxHeartbeats 4000000 in
set_option maxRecDepth 100000 in
theorem c_L_sizes (l : Launch) (G : GG) (a : Nat → Nat) (AD : Nat → Nat → Nat) (Y : Nat → XS) (w : Nat) (hG : Gd Y) (hw : 0 < xn (Y 5) → w < xn (Y 5)) : RO l yL_sizes wsL_sizes 7 166 G (plC G a AD Y) [.ref (a 0), .int (nI w)] (b2i true) := by
  refine RO.start (cc := cL_sizes) (maxL := 13) (ret := (some .boolean)) (by decide) rfl (Nat.le_of_ble_eq_true rfl) ?_
  intro p e s m below meth c ls cx hr hlocks hK hN hP hl
  have cx : CallFix p m c cL_sizes 13 s [.ref (a 0), .int (nI w)].toArray wsL_sizes RL := cx
  have hl : lv_has ls 13 [(0, .ref (a 0)), (1, .int (nI w))] := hl
  have hok := hG.ok
  have hn20 := hok.n20
  have hp16 := hok.p16
  have hv := hG.v
  obtain ⟨f, hRl⟩ := hG.r
  have hcn := col_ne hRl
  refine lv_aload_n cx.1 cx.2.1 dL_sizes_0 rfl (lv_at hl 0 rfl) ?_
  refine lv_iconst (v := nI 4) cx.1 cx.2.1 dL_sizes_1 (by decide) ?_
  refine RO.callV (As := [.int 4]) (rest := []) cx (c_X6_count l G a AD Y 4 hok) gL_sizes_X6_count rfl hd_X6_count ⟨Nat.le_of_ble_eq_true rfl, Nat.le_of_ble_eq_true rfl⟩ (va_recv hK hP (ci := 5) (q0 := 0) rfl rfl) hK hN hP rfl hl.1 rfl (Nat.le_of_ble_eq_true rfl) dL_sizes_2 ⟨Nat.zero_le _, Nat.zero_le _⟩ ?_
  refine nv_eqi (y := nI (xn (Y 5))) (ct4 hok) ?_
  refine lv_istore_n (lv' := [(2, .int (nI (xn (Y 5)))), (0, .ref (a 0)), (1, .int (nI w))]) cx.1 cx.2.1 dL_sizes_5 rfl hl (by decide) rfl (fun ls hl => ?_)
  refine lv_aload_n cx.1 cx.2.1 dL_sizes_6 rfl (lv_at hl 1 rfl) ?_
  refine RO.callV (As := []) (rest := []) cx (c_X6_size l G a AD Y hok) gL_sizes_X6_size rfl hd_X6_size ⟨Nat.le_of_ble_eq_true rfl, Nat.le_of_ble_eq_true rfl⟩ (va_recv hK hP (ci := 5) (q0 := 0) rfl rfl) hK hN hP rfl hl.1 rfl (Nat.le_of_ble_eq_true rfl) dL_sizes_7 ⟨Nat.zero_le _, Nat.zero_le _⟩ ?_
  refine lv_istore_n (lv' := [(3, .int (xSize (Y 5))), (2, .int (nI (xn (Y 5)))), (0, .ref (a 0)), (1, .int (nI w))]) cx.1 cx.2.1 dL_sizes_10 rfl hl (by decide) rfl (fun ls hl => ?_)
  refine lv_iconst (v := nI 0) cx.1 cx.2.1 dL_sizes_11 (by decide) ?_
  refine lv_istore (lv' := [(4, .int (nI 0)), (3, .int (xSize (Y 5))), (2, .int (nI (xn (Y 5)))), (0, .ref (a 0)), (1, .int (nI w))]) cx.1 cx.2.1 dL_sizes_12 hl (by decide) rfl (fun ls hl => ?_)
  refine lv_sipush (v := (-1005)) cx.1 cx.2.1 dL_sizes_14 (by decide) ?_
  refine lv_istore (lv' := [(5, .int (-1005)), (4, .int (nI 0)), (3, .int (xSize (Y 5))), (2, .int (nI (xn (Y 5)))), (0, .ref (a 0)), (1, .int (nI w))]) cx.1 cx.2.1 dL_sizes_17 hl (by decide) rfl (fun ls hl => ?_)
  refine lv_iconst (v := nI 0) cx.1 cx.2.1 dL_sizes_19 (by decide) ?_
  refine lv_istore (lv' := [(6, .int (nI 0)), (5, .int (-1005)), (4, .int (nI 0)), (3, .int (xSize (Y 5))), (2, .int (nI (xn (Y 5)))), (0, .ref (a 0)), (1, .int (nI w))]) cx.1 cx.2.1 dL_sizes_20 hl (by decide) rfl (fun ls hl => ?_)
  have lp22 : ∀ (r : Nat) (i : Nat) (hr9 : xn (Y 5) - i < r) (hi : i ≤ xn (Y 5)) (ls : Array Slot), lv_has ls 13 [(0, .ref (a 0)), (1, .int (nI w)), (2, .int (nI (xn (Y 5)))), (3, .int (xSize (Y 5))), (4, .int (xMostN (Y 5) (-1) i)), (5, .int (lA (Y 5) i)), (6, .int (nI i))] → W p l e ({ frames := 7, cells := 0, slots := 0, locals := 166 } : Room) s m [.ref (a 0), .int (nI w)].toArray below meth c s.heap [] 0 0 (MQ below (vp_Si (fun r => r = (b2i true))) [.ref (a 0), .int (nI w)].toArray s 0 0 (fun _ => False)) (F0 m 22 ls []) := by
    intro r
    induction r with
    | zero => intro i hr9; exact absurd hr9 (Nat.not_lt_zero _)
    | succ r ih22 =>
      intro i hr9 hi ls hl
      refine lv_iload cx.1 cx.2.1 dL_sizes_22 (lv_at hl 6 rfl) ?_
      refine lv_iload_n cx.1 cx.2.1 dL_sizes_24 rfl (lv_at hl 2 rfl) ?_
      refine nv_icmp_ge (a := i) (b := xn (Y 5)) (tgt := 75) cx dL_sizes_25 (by decide) (by omega) (by omega) (fun c_1 => ?_) (fun c_1 => ?_)
      · have ei : i = xn (Y 5) := by omega
        subst ei
        refine lv_aload_n cx.1 cx.2.1 dL_sizes_75 rfl (lv_at hl 0 rfl) ?_
        refine lv_iconst (v := nI 3) cx.1 cx.2.1 dL_sizes_76 (by decide) ?_
        refine RO.callV (As := [.int 3]) (rest := []) cx (c_X6_count l G a AD Y 3 hok) gL_sizes_X6_count rfl hd_X6_count ⟨Nat.le_of_ble_eq_true rfl, Nat.le_of_ble_eq_true rfl⟩ (va_recv hK hP (ci := 5) (q0 := 0) rfl rfl) hK hN hP rfl hl.1 rfl (Nat.le_of_ble_eq_true rfl) dL_sizes_77 ⟨Nat.zero_le _, Nat.zero_le _⟩ ?_
        refine nv_eqi (y := Y 5 5 5) (ct3 Y) ?_
        refine lv_istore (lv' := [(6, .int (Y 5 5 5)), (0, .ref (a 0)), (1, .int (nI w)), (2, .int (nI (xn (Y 5)))), (3, .int (xSize (Y 5))), (4, .int (xMostN (Y 5) (-1) (xn (Y 5)))), (5, .int (lA (Y 5) (xn (Y 5))))]) cx.1 cx.2.1 dL_sizes_80 hl (by decide) rfl (fun ls hl => ?_)
        refine lv_iload_n cx.1 cx.2.1 dL_sizes_82 rfl (lv_at hl 3 rfl) ?_
        refine lv_iload cx.1 cx.2.1 dL_sizes_83 (lv_at hl 0 rfl) ?_
        refine lv_iadd (x := nI (xn (Y 5))) (y := Y 5 5 5) cx.1 cx.2.1 dL_sizes_85 ?_
        refine lv_iconst (v := nI 1) cx.1 cx.2.1 dL_sizes_86 (by decide) ?_
        refine lv_isub (x := (nI (xn (Y 5))) + (Y 5 5 5)) (y := 1) cx.1 cx.2.1 dL_sizes_87 ?_
        refine lv_iload cx.1 cx.2.1 dL_sizes_88 (lv_at hl 0 rfl) ?_
        refine lv_idiv (x := ((nI (xn (Y 5))) + (Y 5 5 5)) - 1) (y := Y 5 5 5) cx.1 cx.2.1 dL_sizes_90 hcn ?_
        refine nv_eqi (y := xRows (Y 5) (nI (xn (Y 5)))) (l_rows hRl (by omega)) ?_
        refine lv_istore (lv' := [(7, .int (xRows (Y 5) (nI (xn (Y 5))))), (6, .int (Y 5 5 5)), (0, .ref (a 0)), (1, .int (nI w)), (2, .int (nI (xn (Y 5)))), (3, .int (xSize (Y 5))), (4, .int (xMostN (Y 5) (-1) (xn (Y 5)))), (5, .int (lA (Y 5) (xn (Y 5))))]) cx.1 cx.2.1 dL_sizes_91 hl (by decide) rfl (fun ls hl => ?_)
        refine lv_aload_n cx.1 cx.2.1 dL_sizes_93 rfl (lv_at hl 2 rfl) ?_
        refine lv_iconst (v := nI 0) cx.1 cx.2.1 dL_sizes_94 (by decide) ?_
        refine RO.callV (As := [.int 0]) (rest := []) cx (c_X6_count l G a AD Y 0 hok) gL_sizes_X6_count rfl hd_X6_count ⟨Nat.le_of_ble_eq_true rfl, Nat.le_of_ble_eq_true rfl⟩ (va_recv hK hP (ci := 5) (q0 := 0) rfl rfl) hK hN hP rfl hl.1 rfl (Nat.le_of_ble_eq_true rfl) dL_sizes_95 ⟨Nat.zero_le _, Nat.zero_le _⟩ ?_
        refine nv_eqi (y := Y 5 5 2) (ct0 Y) ?_
        refine lv_iconst (v := nI 2) cx.1 cx.2.1 dL_sizes_98 (by decide) ?_
        refine lv_aload_n cx.1 cx.2.1 dL_sizes_99 rfl (lv_at hl 2 rfl) ?_
        refine lv_iconst (v := nI 2) cx.1 cx.2.1 dL_sizes_100 (by decide) ?_
        refine RO.callV (As := [.int 2]) (rest := [.int (nI 2), .int (Y 5 5 2)]) cx (c_X6_count l G a AD Y 2 hok) gL_sizes_X6_count rfl hd_X6_count ⟨Nat.le_of_ble_eq_true rfl, Nat.le_of_ble_eq_true rfl⟩ (va_recv hK hP (ci := 5) (q0 := 0) rfl rfl) hK hN hP rfl hl.1 rfl (Nat.le_of_ble_eq_true rfl) dL_sizes_101 ⟨Nat.zero_le _, Nat.zero_le _⟩ ?_
        refine nv_eqi (y := Y 5 5 4) (ct2 Y) ?_
        refine lv_imul (x := 2) (y := Y 5 5 4) cx.1 cx.2.1 dL_sizes_104 ?_
        refine lv_isub (x := Y 5 5 2) (y := 2 * (Y 5 5 4)) cx.1 cx.2.1 dL_sizes_105 ?_
        refine lv_iload cx.1 cx.2.1 dL_sizes_106 (lv_at hl 1 rfl) ?_
        refine lv_idiv (x := (Y 5 5 2) - (2 * (Y 5 5 4))) (y := Y 5 5 5) cx.1 cx.2.1 dL_sizes_108 hcn ?_
        refine nv_eqi (y := xCw (Y 5) (Y 5 5 2)) (l_wide hRl) ?_
        refine lv_istore (lv' := [(8, .int (xCw (Y 5) (Y 5 5 2))), (7, .int (xRows (Y 5) (nI (xn (Y 5))))), (6, .int (Y 5 5 5)), (0, .ref (a 0)), (1, .int (nI w)), (2, .int (nI (xn (Y 5)))), (3, .int (xSize (Y 5))), (4, .int (xMostN (Y 5) (-1) (xn (Y 5)))), (5, .int (lA (Y 5) (xn (Y 5))))]) cx.1 cx.2.1 dL_sizes_109 hl (by decide) rfl (fun ls hl => ?_)
        refine lv_aload_n cx.1 cx.2.1 dL_sizes_111 rfl (lv_at hl 3 rfl) ?_
        refine lv_iconst (v := nI 1) cx.1 cx.2.1 dL_sizes_112 (by decide) ?_
        refine RO.callV (As := [.int 1]) (rest := []) cx (c_X6_count l G a AD Y 1 hok) gL_sizes_X6_count rfl hd_X6_count ⟨Nat.le_of_ble_eq_true rfl, Nat.le_of_ble_eq_true rfl⟩ (va_recv hK hP (ci := 5) (q0 := 0) rfl rfl) hK hN hP rfl hl.1 rfl (Nat.le_of_ble_eq_true rfl) dL_sizes_113 ⟨Nat.zero_le _, Nat.zero_le _⟩ ?_
        refine nv_eqi (y := Y 5 5 3) (ct1 Y) ?_
        refine lv_iconst (v := nI 2) cx.1 cx.2.1 dL_sizes_116 (by decide) ?_
        refine lv_aload_n cx.1 cx.2.1 dL_sizes_117 rfl (lv_at hl 3 rfl) ?_
        refine lv_iconst (v := nI 2) cx.1 cx.2.1 dL_sizes_118 (by decide) ?_
        refine RO.callV (As := [.int 2]) (rest := [.int (nI 2), .int (Y 5 5 3)]) cx (c_X6_count l G a AD Y 2 hok) gL_sizes_X6_count rfl hd_X6_count ⟨Nat.le_of_ble_eq_true rfl, Nat.le_of_ble_eq_true rfl⟩ (va_recv hK hP (ci := 5) (q0 := 0) rfl rfl) hK hN hP rfl hl.1 rfl (Nat.le_of_ble_eq_true rfl) dL_sizes_119 ⟨Nat.zero_le _, Nat.zero_le _⟩ ?_
        refine nv_eqi (y := Y 5 5 4) (ct2 Y) ?_
        refine lv_imul (x := 2) (y := Y 5 5 4) cx.1 cx.2.1 dL_sizes_122 ?_
        refine lv_isub (x := Y 5 5 3) (y := 2 * (Y 5 5 4)) cx.1 cx.2.1 dL_sizes_123 ?_
        refine lv_istore (lv' := [(9, .int ((Y 5 5 3) - (2 * (Y 5 5 4)))), (8, .int (xCw (Y 5) (Y 5 5 2))), (7, .int (xRows (Y 5) (nI (xn (Y 5))))), (6, .int (Y 5 5 5)), (0, .ref (a 0)), (1, .int (nI w)), (2, .int (nI (xn (Y 5)))), (3, .int (xSize (Y 5))), (4, .int (xMostN (Y 5) (-1) (xn (Y 5)))), (5, .int (lA (Y 5) (xn (Y 5))))]) cx.1 cx.2.1 dL_sizes_124 hl (by decide) rfl (fun ls hl => ?_)
        have jn126 : ∀ (sz : Nat) (ls : Array Slot), sz ≤ 40 → zF (Y 5) = nI sz → lv_has ls 13 [(9, .int ((Y 5 5 3) - (2 * (Y 5 5 4)))), (8, .int (xCw (Y 5) (Y 5 5 2))), (7, .int (xRows (Y 5) (nI (xn (Y 5))))), (6, .int (Y 5 5 5)), (0, .ref (a 0)), (1, .int (nI w)), (2, .int (nI (xn (Y 5)))), (3, .int (xSize (Y 5))), (4, .int (xMostN (Y 5) (-1) (xn (Y 5)))), (5, .int (lA (Y 5) (xn (Y 5)))), (10, .int (nI sz))] → W p l e ({ frames := 7, cells := 0, slots := 0, locals := 166 } : Room) s m [.ref (a 0), .int (nI w)].toArray below meth c s.heap [] 0 0 (MQ below (vp_Si (fun r => r = (b2i true))) [.ref (a 0), .int (nI w)].toArray s 0 0 (fun _ => False)) (F0 m 168 ls []) := by
          intro sz ls hs40 hzs hl
          refine lv_aload_n cx.1 cx.2.1 dL_sizes_168 rfl (lv_at hl 4 rfl) ?_
          refine lv_aload_n cx.1 cx.2.1 dL_sizes_169 rfl (lv_at hl 4 rfl) ?_
          refine lv_iconst (v := nI 0) cx.1 cx.2.1 dL_sizes_170 (by decide) ?_
          refine RO.callV (As := [.int 0]) (rest := [.ref (a 0)]) cx (c_X6_count l G a AD Y 0 hok) gL_sizes_X6_count rfl hd_X6_count ⟨Nat.le_of_ble_eq_true rfl, Nat.le_of_ble_eq_true rfl⟩ (va_recv hK hP (ci := 5) (q0 := 0) rfl rfl) hK hN hP rfl hl.1 rfl (Nat.le_of_ble_eq_true rfl) dL_sizes_171 ⟨Nat.zero_le _, Nat.zero_le _⟩ ?_
          refine nv_eqi (y := Y 5 5 2) (ct0 Y) ?_
          refine lv_aload_n cx.1 cx.2.1 dL_sizes_174 rfl (lv_at hl 4 rfl) ?_
          refine lv_iconst (v := nI 1) cx.1 cx.2.1 dL_sizes_175 (by decide) ?_
          refine RO.callV (As := [.int 1]) (rest := [.int (Y 5 5 2), .ref (a 0)]) cx (c_X6_count l G a AD Y 1 hok) gL_sizes_X6_count rfl hd_X6_count ⟨Nat.le_of_ble_eq_true rfl, Nat.le_of_ble_eq_true rfl⟩ (va_recv hK hP (ci := 5) (q0 := 0) rfl rfl) hK hN hP rfl hl.1 rfl (Nat.le_of_ble_eq_true rfl) dL_sizes_176 ⟨Nat.zero_le _, Nat.zero_le _⟩ ?_
          refine nv_eqi (y := Y 5 5 3) (ct1 Y) ?_
          refine RO.callV (As := [.int (Y 5 5 2), .int (Y 5 5 3)]) (rest := []) cx (c_X6_sizeBy l G a AD Y (Y 5 5 2) (Y 5 5 3) hok) gL_sizes_X6_sizeBy rfl hd_X6_sizeBy ⟨Nat.le_of_ble_eq_true rfl, Nat.le_of_ble_eq_true rfl⟩ (va_recv hK hP (ci := 5) (q0 := 0) rfl rfl) hK hN hP rfl hl.1 rfl (Nat.le_of_ble_eq_true rfl) dL_sizes_179 ⟨Nat.zero_le _, Nat.zero_le _⟩ ?_
          refine nv_eqi (y := nI sz) ((l_sizeBy hRl).trans hzs) ?_
          refine lv_iload cx.1 cx.2.1 dL_sizes_182 (lv_at hl 10 rfl) ?_
          refine nv_icmp_ne (a := sz) (b := sz) (tgt := 234) cx dL_sizes_184 (by decide) (by omega) (by omega) (fun c_2 => ?_) (fun c_2 => ?_)
          · exact absurd rfl c_2
          · refine lv_aload_n cx.1 cx.2.1 dL_sizes_187 rfl (lv_at hl 4 rfl) ?_
            refine lv_iconst (v := nI 5) cx.1 cx.2.1 dL_sizes_188 (by decide) ?_
            refine RO.callV (As := [.int 5]) (rest := []) cx (c_X6_count l G a AD Y 5 hok) gL_sizes_X6_count rfl hd_X6_count ⟨Nat.le_of_ble_eq_true rfl, Nat.le_of_ble_eq_true rfl⟩ (va_recv hK hP (ci := 5) (q0 := 0) rfl rfl) hK hN hP rfl hl.1 rfl (Nat.le_of_ble_eq_true rfl) dL_sizes_189 ⟨Nat.zero_le _, Nat.zero_le _⟩ ?_
            refine nv_eqi (y := bitc (Y 5 5 6)) (ct5 Y) ?_
            have jn192 : ∀ (ls : Array Slot), lv_has ls 13 [(9, .int ((Y 5 5 3) - (2 * (Y 5 5 4)))), (8, .int (xCw (Y 5) (Y 5 5 2))), (7, .int (xRows (Y 5) (nI (xn (Y 5))))), (6, .int (Y 5 5 5)), (0, .ref (a 0)), (1, .int (nI w)), (2, .int (nI (xn (Y 5)))), (3, .int (xSize (Y 5))), (4, .int (xMostN (Y 5) (-1) (xn (Y 5)))), (5, .int (lA (Y 5) (xn (Y 5)))), (10, .int (nI sz))] → W p l e ({ frames := 7, cells := 0, slots := 0, locals := 166 } : Room) s m [.ref (a 0), .int (nI w)].toArray below meth c s.heap [] 0 0 (MQ below (vp_Si (fun r => r = (b2i true))) [.ref (a 0), .int (nI w)].toArray s 0 0 (fun _ => False)) (F0 m 201 ls []) := by
              intro  ls  hl
              refine lv_aload_n cx.1 cx.2.1 dL_sizes_201 rfl (lv_at hl 4 rfl) ?_
              refine lv_iconst (v := nI 5) cx.1 cx.2.1 dL_sizes_202 (by decide) ?_
              refine RO.callV (As := [.int 5]) (rest := []) cx (c_X6_count l G a AD Y 5 hok) gL_sizes_X6_count rfl hd_X6_count ⟨Nat.le_of_ble_eq_true rfl, Nat.le_of_ble_eq_true rfl⟩ (va_recv hK hP (ci := 5) (q0 := 0) rfl rfl) hK hN hP rfl hl.1 rfl (Nat.le_of_ble_eq_true rfl) dL_sizes_203 ⟨Nat.zero_le _, Nat.zero_le _⟩ ?_
              refine nv_eqi (y := bitc (Y 5 5 6)) (ct5 Y) ?_
              have jn206 : ∀ (ls : Array Slot), lv_has ls 13 [(9, .int ((Y 5 5 3) - (2 * (Y 5 5 4)))), (8, .int (xCw (Y 5) (Y 5 5 2))), (7, .int (xRows (Y 5) (nI (xn (Y 5))))), (6, .int (Y 5 5 5)), (0, .ref (a 0)), (1, .int (nI w)), (2, .int (nI (xn (Y 5)))), (3, .int (xSize (Y 5))), (4, .int (xMostN (Y 5) (-1) (xn (Y 5)))), (5, .int (lA (Y 5) (xn (Y 5)))), (10, .int (nI sz))] → W p l e ({ frames := 7, cells := 0, slots := 0, locals := 166 } : Room) s m [.ref (a 0), .int (nI w)].toArray below meth c s.heap [] 0 0 (MQ below (vp_Si (fun r => r = (b2i true))) [.ref (a 0), .int (nI w)].toArray s 0 0 (fun _ => False)) (F0 m 214 ls []) := by
                intro  ls  hl
                refine lv_aload_n cx.1 cx.2.1 dL_sizes_214 rfl (lv_at hl 4 rfl) ?_
                refine RO.callV (As := []) (rest := []) cx (c_X6_longest l G a AD Y hok) gL_sizes_X6_longest rfl hd_X6_longest ⟨Nat.le_of_ble_eq_true rfl, Nat.le_of_ble_eq_true rfl⟩ (va_recv hK hP (ci := 5) (q0 := 0) rfl rfl) hK hN hP rfl hl.1 rfl (Nat.le_of_ble_eq_true rfl) dL_sizes_215 ⟨Nat.zero_le _, Nat.zero_le _⟩ ?_
                refine nv_eqi (y := lA (Y 5) (xn (Y 5))) (l_long hRl) ?_
                refine lv_iload cx.1 cx.2.1 dL_sizes_218 (lv_at hl 9 rfl) ?_
                refine lv_icmp_ne (x := lA (Y 5) (xn (Y 5))) (y := lA (Y 5) (xn (Y 5))) (tgt := 234) cx.1 cx.2.1 dL_sizes_220 (by decide) (fun c_3 => ?_) (fun c_3 => ?_)
                · exact absurd rfl c_3
                · refine lv_aload_n cx.1 cx.2.1 dL_sizes_223 rfl (lv_at hl 4 rfl) ?_
                  refine lv_bipush (v := nI 6) cx.1 cx.2.1 dL_sizes_224 (by decide) ?_
                  refine RO.callV (As := [.int 6]) (rest := []) cx (c_X6_count l G a AD Y 6 hok) gL_sizes_X6_count rfl hd_X6_count ⟨Nat.le_of_ble_eq_true rfl, Nat.le_of_ble_eq_true rfl⟩ (va_recv hK hP (ci := 5) (q0 := 0) rfl rfl) hK hN hP rfl hl.1 rfl (Nat.le_of_ble_eq_true rfl) dL_sizes_226 ⟨Nat.zero_le _, Nat.zero_le _⟩ ?_
                  refine nv_eqi (y := xRows (Y 5) (nI (xn (Y 5)))) (ct6 hok) ?_
                  refine lv_iload cx.1 cx.2.1 dL_sizes_229 (lv_at hl 2 rfl) ?_
                  refine lv_icmp_eq (x := xRows (Y 5) (nI (xn (Y 5)))) (y := xRows (Y 5) (nI (xn (Y 5)))) (tgt := 236) cx.1 cx.2.1 dL_sizes_231 (by decide) (fun c_4 => ?_) (fun c_4 => ?_)
                  · refine lv_iload_n cx.1 cx.2.1 dL_sizes_236 rfl (lv_at hl 6 rfl) ?_
                    have jn237 : ∀ (ls : Array Slot), lv_has ls 13 [(9, .int ((Y 5 5 3) - (2 * (Y 5 5 4)))), (8, .int (xCw (Y 5) (Y 5 5 2))), (7, .int (xRows (Y 5) (nI (xn (Y 5))))), (6, .int (Y 5 5 5)), (0, .ref (a 0)), (1, .int (nI w)), (2, .int (nI (xn (Y 5)))), (3, .int (xSize (Y 5))), (4, .int (xMostN (Y 5) (-1) (xn (Y 5)))), (5, .int (lA (Y 5) (xn (Y 5)))), (10, .int (nI sz))] → W p l e ({ frames := 7, cells := 0, slots := 0, locals := 166 } : Room) s m [.ref (a 0), .int (nI w)].toArray below meth c s.heap [] 0 0 (MQ below (vp_Si (fun r => r = (b2i true))) [.ref (a 0), .int (nI w)].toArray s 0 0 (fun _ => False)) (F0 m 252 ls []) := by
                      intro  ls  hl
                      refine lv_aload_n cx.1 cx.2.1 dL_sizes_252 rfl (lv_at hl 4 rfl) ?_
                      refine lv_bipush (v := nI 7) cx.1 cx.2.1 dL_sizes_253 (by decide) ?_
                      refine RO.callV (As := [.int 7]) (rest := []) cx (c_X6_leastWidth l G a AD Y 7 hok) gL_sizes_X6_leastWidth rfl hd_X6_leastWidth ⟨Nat.le_of_ble_eq_true rfl, Nat.le_of_ble_eq_true rfl⟩ (va_recv hK hP (ci := 5) (q0 := 0) rfl rfl) hK hN hP rfl hl.1 rfl (Nat.le_of_ble_eq_true rfl) dL_sizes_255 ⟨Nat.zero_le _, Nat.zero_le _⟩ ?_
                      refine lv_istore (lv' := [(11, .int (yLeast (Y 5) 7)), (9, .int ((Y 5 5 3) - (2 * (Y 5 5 4)))), (8, .int (xCw (Y 5) (Y 5 5 2))), (7, .int (xRows (Y 5) (nI (xn (Y 5))))), (6, .int (Y 5 5 5)), (0, .ref (a 0)), (1, .int (nI w)), (2, .int (nI (xn (Y 5)))), (3, .int (xSize (Y 5))), (4, .int (xMostN (Y 5) (-1) (xn (Y 5)))), (5, .int (lA (Y 5) (xn (Y 5)))), (10, .int (nI sz))]) cx.1 cx.2.1 dL_sizes_258 hl (by decide) rfl (fun ls hl => ?_)
                      refine lv_iload cx.1 cx.2.1 dL_sizes_260 (lv_at hl 9 rfl) ?_
                      refine lv_bipush (v := nI 7) cx.1 cx.2.1 dL_sizes_262 (by decide) ?_
                      refine lv_imul (x := xMostN (Y 5) (-1) (xn (Y 5))) (y := 7) cx.1 cx.2.1 dL_sizes_264 ?_
                      refine lv_iload cx.1 cx.2.1 dL_sizes_265 (lv_at hl 4 rfl) ?_
                      refine lv_imul (x := (xMostN (Y 5) (-1) (xn (Y 5))) * 7) (y := Y 5 5 5) cx.1 cx.2.1 dL_sizes_267 ?_
                      refine lv_iconst (v := nI 2) cx.1 cx.2.1 dL_sizes_268 (by decide) ?_
                      refine lv_aload_n cx.1 cx.2.1 dL_sizes_269 rfl (lv_at hl 5 rfl) ?_
                      refine lv_iconst (v := nI 2) cx.1 cx.2.1 dL_sizes_270 (by decide) ?_
                      refine RO.callV (As := [.int 2]) (rest := [.int (nI 2), .int (((xMostN (Y 5) (-1) (xn (Y 5))) * 7) * (Y 5 5 5))]) cx (c_X6_count l G a AD Y 2 hok) gL_sizes_X6_count rfl hd_X6_count ⟨Nat.le_of_ble_eq_true rfl, Nat.le_of_ble_eq_true rfl⟩ (va_recv hK hP (ci := 5) (q0 := 0) rfl rfl) hK hN hP rfl hl.1 rfl (Nat.le_of_ble_eq_true rfl) dL_sizes_271 ⟨Nat.zero_le _, Nat.zero_le _⟩ ?_
                      refine nv_eqi (y := Y 5 5 4) (ct2 Y) ?_
                      refine lv_imul (x := 2) (y := Y 5 5 4) cx.1 cx.2.1 dL_sizes_274 ?_
                      refine lv_iadd (x := ((xMostN (Y 5) (-1) (xn (Y 5))) * 7) * (Y 5 5 5)) (y := 2 * (Y 5 5 4)) cx.1 cx.2.1 dL_sizes_275 ?_
                      refine nv_eqi (y := lBig (Y 5)) rfl ?_
                      refine lv_istore (lv' := [(12, .int (lBig (Y 5))), (11, .int (yLeast (Y 5) 7)), (9, .int ((Y 5 5 3) - (2 * (Y 5 5 4)))), (8, .int (xCw (Y 5) (Y 5 5 2))), (7, .int (xRows (Y 5) (nI (xn (Y 5))))), (6, .int (Y 5 5 5)), (0, .ref (a 0)), (1, .int (nI w)), (2, .int (nI (xn (Y 5)))), (3, .int (xSize (Y 5))), (4, .int (xMostN (Y 5) (-1) (xn (Y 5)))), (5, .int (lA (Y 5) (xn (Y 5)))), (10, .int (nI sz))]) cx.1 cx.2.1 dL_sizes_276 hl (by decide) rfl (fun ls hl => ?_)
                      refine lv_iload cx.1 cx.2.1 dL_sizes_278 (lv_at hl 1 rfl) ?_
                      refine lv_iload_n cx.1 cx.2.1 dL_sizes_280 rfl (lv_at hl 8 rfl) ?_
                      have jn281 : ∀ (ls : Array Slot), lv_has ls 13 [(12, .int (lBig (Y 5))), (11, .int (yLeast (Y 5) 7)), (9, .int ((Y 5 5 3) - (2 * (Y 5 5 4)))), (8, .int (xCw (Y 5) (Y 5 5 2))), (7, .int (xRows (Y 5) (nI (xn (Y 5))))), (6, .int (Y 5 5 5)), (0, .ref (a 0)), (1, .int (nI w)), (2, .int (nI (xn (Y 5)))), (3, .int (xSize (Y 5))), (4, .int (xMostN (Y 5) (-1) (xn (Y 5)))), (5, .int (lA (Y 5) (xn (Y 5)))), (10, .int (nI sz))] → W p l e ({ frames := 7, cells := 0, slots := 0, locals := 166 } : Room) s m [.ref (a 0), .int (nI w)].toArray below meth c s.heap [] 0 0 (MQ below (vp_Si (fun r => r = (b2i true))) [.ref (a 0), .int (nI w)].toArray s 0 0 (fun _ => False)) (F0 m 306 ls [.int (yLeast (Y 5) 7), .int (yLeast (Y 5) 7)]) := by
                        intro  ls  hl
                        refine lv_icmp_ne (x := yLeast (Y 5) 7) (y := yLeast (Y 5) 7) (tgt := 351) cx.1 cx.2.1 dL_sizes_306 (by decide) (fun c_5 => ?_) (fun c_5 => ?_)
                        · exact absurd rfl c_5
                        · refine lv_aload_n cx.1 cx.2.1 dL_sizes_309 rfl (lv_at hl 6 rfl) ?_
                          refine lv_sipush (v := nI 299) cx.1 cx.2.1 dL_sizes_310 (by decide) ?_
                          refine lv_bipush (v := nI 100) cx.1 cx.2.1 dL_sizes_313 (by decide) ?_
                          refine RO.callV (As := [.int 299, .int 100]) (rest := []) cx (c_X6_sizeBy l G a AD Y 299 100 hok) gL_sizes_X6_sizeBy rfl hd_X6_sizeBy ⟨Nat.le_of_ble_eq_true rfl, Nat.le_of_ble_eq_true rfl⟩ (va_recv hK hP (ci := 5) (q0 := 0) rfl rfl) hK hN hP rfl hl.1 rfl (Nat.le_of_ble_eq_true rfl) dL_sizes_315 ⟨Nat.zero_le _, Nat.zero_le _⟩ ?_
                          refine nv_eqi (y := (-1002)) (if_neg (by decide)) ?_
                          refine lv_sipush (v := (-1002)) cx.1 cx.2.1 dL_sizes_318 (by decide) ?_
                          refine lv_icmp_ne (x := (-1002)) (y := (-1002)) (tgt := 351) cx.1 cx.2.1 dL_sizes_321 (by decide) (fun c_6 => ?_) (fun c_6 => ?_)
                          · exact absurd rfl c_6
                          · refine lv_aload_n cx.1 cx.2.1 dL_sizes_324 rfl (lv_at hl 6 rfl) ?_
                            refine lv_bipush (v := nI 41) cx.1 cx.2.1 dL_sizes_325 (by decide) ?_
                            refine RO.callV (As := [.int 41]) (rest := []) cx (c_X6_leastWidth l G a AD Y 41 hok) gL_sizes_X6_leastWidth rfl hd_X6_leastWidth ⟨Nat.le_of_ble_eq_true rfl, Nat.le_of_ble_eq_true rfl⟩ (va_recv hK hP (ci := 5) (q0 := 0) rfl rfl) hK hN hP rfl hl.1 rfl (Nat.le_of_ble_eq_true rfl) dL_sizes_327 ⟨Nat.zero_le _, Nat.zero_le _⟩ ?_
                            refine nv_eqi (y := (-1002)) (if_pos (by decide)) ?_
                            refine lv_sipush (v := (-1002)) cx.1 cx.2.1 dL_sizes_330 (by decide) ?_
                            refine lv_icmp_ne (x := (-1002)) (y := (-1002)) (tgt := 351) cx.1 cx.2.1 dL_sizes_333 (by decide) (fun c_7 => ?_) (fun c_7 => ?_)
                            · exact absurd rfl c_7
                            · refine lv_aload_n cx.1 cx.2.1 dL_sizes_336 rfl (lv_at hl 6 rfl) ?_
                              refine lv_iload_n cx.1 cx.2.1 dL_sizes_337 rfl (lv_at hl 8 rfl) ?_
                              refine RO.callV (As := [.int (nI (xn (Y 5)))]) (rest := []) cx (c_X6_sizeWithout l G a AD Y (nI (xn (Y 5))) hok) gL_sizes_X6_sizeWithout rfl hd_X6_sizeWithout ⟨Nat.le_of_ble_eq_true rfl, Nat.le_of_ble_eq_true rfl⟩ (va_recv hK hP (ci := 5) (q0 := 0) rfl rfl) hK hN hP rfl hl.1 rfl (Nat.le_of_ble_eq_true rfl) dL_sizes_338 ⟨Nat.zero_le _, Nat.zero_le _⟩ ?_
                              refine nv_eqi (y := (-1001)) (l_wo1 hok) ?_
                              refine lv_sipush (v := (-1001)) cx.1 cx.2.1 dL_sizes_341 (by decide) ?_
                              refine lv_icmp_ne (x := (-1001)) (y := (-1001)) (tgt := 351) cx.1 cx.2.1 dL_sizes_344 (by decide) (fun c_8 => ?_) (fun c_8 => ?_)
                              · exact absurd rfl c_8
                              · refine lv_iconst (v := nI 1) cx.1 cx.2.1 dL_sizes_347 (by decide) ?_
                                refine lv_goto (tgt := 352) cx.1 cx.2.1 dL_sizes_348 (by decide) ?_
                                exact RO.retz (b := true) (x := 1) cx hr hlocks dL_sizes_352 (by rfl) rfl
                      refine nv_if_ne (a := xn (Y 5)) (tgt := 290) cx dL_sizes_281 (by decide) (by omega) (fun c_9 => ?_) (fun c_9 => ?_)
                      · have c281 : ¬ xn (Y 5) = 0 := c_9
                        refine lv_iload cx.1 cx.2.1 dL_sizes_290 (lv_at hl 0 rfl) ?_
                        refine lv_sipush (v := nI 300) cx.1 cx.2.1 dL_sizes_292 (by decide) ?_
                        refine lv_icmp_ge (x := lBig (Y 5)) (y := 300) (tgt := 304) cx.1 cx.2.1 dL_sizes_295 (by decide) (fun c_10 => ?_) (fun c_10 => ?_)
                        · refine lv_iload cx.1 cx.2.1 dL_sizes_304 (lv_at hl 0 rfl) ?_
                          refine nv_eqi (y := yLeast (Y 5) 7) (by first | rw [l_big, if_pos c_10] | (rw [l_big, if_neg c281, if_pos (Int32.not_le.mp c_10)]; rfl) | rw [l_big, if_neg c281, if_neg (Int32.not_lt.mpr c_10)]) ?_
                          exact jn281  ls  hl
                        · refine lv_sipush (v := nI 300) cx.1 cx.2.1 dL_sizes_298 (by decide) ?_
                          refine lv_goto (tgt := 306) cx.1 cx.2.1 dL_sizes_301 (by decide) ?_
                          refine nv_eqi (y := yLeast (Y 5) 7) (by first | rw [l_big, if_pos c_10] | (rw [l_big, if_neg c281, if_pos (Int32.not_le.mp c_10)]; rfl) | rw [l_big, if_neg c281, if_neg (Int32.not_lt.mpr c_10)]) ?_
                          exact jn281  ls  hl
                      · refine lv_sipush (v := (-1005)) cx.1 cx.2.1 dL_sizes_284 (by decide) ?_
                        refine lv_goto (tgt := 306) cx.1 cx.2.1 dL_sizes_287 (by decide) ?_
                        refine nv_eqi (y := yLeast (Y 5) 7) (by first | rw [l_big, if_pos c_9] | (rw [l_big, if_neg c281, if_pos (Int32.not_le.mp c_9)]; rfl) | rw [l_big, if_neg c281, if_neg (Int32.not_lt.mpr c_9)]) ?_
                        exact jn281  ls  hl
                    refine nv_if_le (a := xn (Y 5)) (tgt := 252) cx dL_sizes_237 (by decide) (by omega) (fun c_11 => ?_) (fun c_11 => ?_)
                    · exact jn237  ls  hl
                    · have hn0 : 0 < xn (Y 5) := c_11
                      refine lv_aload_n cx.1 cx.2.1 dL_sizes_240 rfl (lv_at hl 4 rfl) ?_
                      refine lv_iload_n cx.1 cx.2.1 dL_sizes_241 rfl (lv_at hl 5 rfl) ?_
                      refine RO.callV (As := [.int (nI w)]) (rest := []) cx (c_X6_sizeWithout l G a AD Y (nI w) hok) gL_sizes_X6_sizeWithout rfl hd_X6_sizeWithout ⟨Nat.le_of_ble_eq_true rfl, Nat.le_of_ble_eq_true rfl⟩ (va_recv hK hP (ci := 5) (q0 := 0) rfl rfl) hK hN hP rfl hl.1 rfl (Nat.le_of_ble_eq_true rfl) dL_sizes_242 ⟨Nat.zero_le _, Nat.zero_le _⟩ ?_
                      refine lv_iload cx.1 cx.2.1 dL_sizes_245 (lv_at hl 10 rfl) ?_
                      refine lv_icmp_ge (x := ySizeWo (Y 5) (nI w)) (y := nI sz) (tgt := 252) cx.1 cx.2.1 dL_sizes_247 (by decide) (fun c_12 => ?_) (fun c_12 => ?_)
                      · exact jn237  ls  hl
                      · exact absurd (by rw [← hzs]; exact Int32.not_lt.mp (l_without hRl (hw hn0))) c_12
                  · exact absurd rfl c_4
              refine lv_if_le (x := bitc (Y 5 5 6)) (tgt := 214) cx.1 cx.2.1 dL_sizes_206 (by decide) (fun c_13 => ?_) (fun c_13 => ?_)
              · exact jn206  ls  hl
              · have hq1 := c_13
                refine lv_iload_n cx.1 cx.2.1 dL_sizes_209 rfl (lv_at hl 7 rfl) ?_
                refine lv_iconst (v := nI 1) cx.1 cx.2.1 dL_sizes_210 (by decide) ?_
                refine lv_icmp_lt (x := xSize (Y 5)) (y := 1) (tgt := 234) cx.1 cx.2.1 dL_sizes_211 (by decide) (fun c_14 => ?_) (fun c_14 => ?_)
                · exact absurd c_14 (l_size1 hRl (fun q => hq1 (by rw [q]; exact Int32.le_refl _)))
                · exact jn206  ls  hl
            refine lv_if_ne (x := bitc (Y 5 5 6)) (tgt := 201) cx.1 cx.2.1 dL_sizes_192 (by decide) (fun c_15 => ?_) (fun c_15 => ?_)
            · exact jn192  ls  hl
            · have hq0 : bitc (Y 5 5 6) = 0 := c_15
              refine lv_iload_n cx.1 cx.2.1 dL_sizes_195 rfl (lv_at hl 7 rfl) ?_
              refine lv_iload cx.1 cx.2.1 dL_sizes_196 (lv_at hl 10 rfl) ?_
              refine lv_icmp_ne (x := xSize (Y 5)) (y := nI sz) (tgt := 234) cx.1 cx.2.1 dL_sizes_198 (by decide) (fun c_16 => ?_) (fun c_16 => ?_)
              · exact absurd ((l_size0 hRl hq0).trans hzs) c_16
              · exact jn192  ls  hl
        refine lv_bipush (v := nI 40) cx.1 cx.2.1 dL_sizes_126 (by decide) ?_
        refine lv_istore (lv' := [(10, .int (nI 40)), (9, .int ((Y 5 5 3) - (2 * (Y 5 5 4)))), (8, .int (xCw (Y 5) (Y 5 5 2))), (7, .int (xRows (Y 5) (nI (xn (Y 5))))), (6, .int (Y 5 5 5)), (0, .ref (a 0)), (1, .int (nI w)), (2, .int (nI (xn (Y 5)))), (3, .int (xSize (Y 5))), (4, .int (xMostN (Y 5) (-1) (xn (Y 5)))), (5, .int (lA (Y 5) (xn (Y 5))))]) cx.1 cx.2.1 dL_sizes_128 hl (by decide) rfl (fun ls hl => ?_)
        have lp130 : ∀ (r : Nat) (sz : Nat) (hr9 : sz < r) (hI9 : zI (Y 5) sz) (ls : Array Slot), lv_has ls 13 [(0, .ref (a 0)), (1, .int (nI w)), (2, .int (nI (xn (Y 5)))), (3, .int (xSize (Y 5))), (4, .int (xMostN (Y 5) (-1) (xn (Y 5)))), (5, .int (lA (Y 5) (xn (Y 5)))), (6, .int (Y 5 5 5)), (7, .int (xRows (Y 5) (nI (xn (Y 5))))), (8, .int (xCw (Y 5) (Y 5 5 2))), (9, .int ((Y 5 5 3) - (2 * (Y 5 5 4)))), (10, .int (nI sz))] → W p l e ({ frames := 7, cells := 0, slots := 0, locals := 166 } : Room) s m [.ref (a 0), .int (nI w)].toArray below meth c s.heap [] 0 0 (MQ below (vp_Si (fun r => r = (b2i true))) [.ref (a 0), .int (nI w)].toArray s 0 0 (fun _ => False)) (F0 m 130 ls []) := by
          intro r
          induction r with
          | zero => intro sz hr9; exact absurd hr9 (Nat.not_lt_zero _)
          | succ r ih130 =>
            intro sz hr9 hI9 ls hl
            have hs40 := hI9.1
            refine lv_iload cx.1 cx.2.1 dL_sizes_130 (lv_at hl 10 rfl) ?_
            refine nv_if_le (a := sz) (tgt := 168) cx dL_sizes_132 (by decide) (by omega) (fun c_17 => ?_) (fun c_17 => ?_)
            · exact jn126 sz ls hI9.1 (by first | exact zI_z hI9 c_17 | exact zI_n hI9 c_17 | exact zI_f hI9 (by omega) (by omega) c146 c_17) (lv_sub hl [9, 8, 7, 6, 0, 1, 2, 3, 4, 5, 10] rfl)
            · refine lv_iload_n cx.1 cx.2.1 dL_sizes_135 rfl (lv_at hl 2 rfl) ?_
              refine nv_if_le (a := xn (Y 5)) (tgt := 168) cx dL_sizes_136 (by decide) (by omega) (fun c_18 => ?_) (fun c_18 => ?_)
              · exact jn126 sz ls hI9.1 (by first | exact zI_z hI9 c_18 | exact zI_n hI9 c_18 | exact zI_f hI9 (by omega) (by omega) c146 c_18) (lv_sub hl [9, 8, 7, 6, 0, 1, 2, 3, 4, 5, 10] rfl)
              · refine lv_iload cx.1 cx.2.1 dL_sizes_139 (lv_at hl 4 rfl) ?_
                refine lv_iload cx.1 cx.2.1 dL_sizes_141 (lv_at hl 10 rfl) ?_
                refine lv_imul (x := xMostN (Y 5) (-1) (xn (Y 5))) (y := nI sz) cx.1 cx.2.1 dL_sizes_143 ?_
                refine lv_iload cx.1 cx.2.1 dL_sizes_144 (lv_at hl 8 rfl) ?_
                refine lv_icmp_gt (x := (xMostN (Y 5) (-1) (xn (Y 5))) * (nI sz)) (y := xCw (Y 5) (Y 5 5 2)) (tgt := 162) cx.1 cx.2.1 dL_sizes_146 (by decide) (fun c_19 => ?_) (fun c_19 => ?_)
                · have c146 := c_19
                  refine lv_iinc (v := nI (sz - 1)) (lv' := [(10, .int (nI (sz - 1))), (0, .ref (a 0)), (1, .int (nI w)), (2, .int (nI (xn (Y 5)))), (3, .int (xSize (Y 5))), (4, .int (xMostN (Y 5) (-1) (xn (Y 5)))), (5, .int (lA (Y 5) (xn (Y 5)))), (6, .int (Y 5 5 5)), (7, .int (xRows (Y 5) (nI (xn (Y 5))))), (8, .int (xCw (Y 5) (Y 5 5 2))), (9, .int ((Y 5 5 3) - (2 * (Y 5 5 4))))]) cx.1 cx.2.1 dL_sizes_162 hl (k := 10) rfl (nI_dec (by omega)) (by decide) rfl (fun ls hl => ?_)
                  refine lv_goto (tgt := 130) cx.1 cx.2.1 dL_sizes_165 (by decide) ?_
                  have hI8 : zI (Y 5) (sz - 1) := by first | exact zI_s hI9 (by omega) (by omega) (Or.inl c146) | exact zI_s hI9 (by omega) (by omega) (Or.inr c159)
                  exact ih130 (sz - 1) (by omega) hI8 ls (lv_sub hl [1, 2, 3, 4, 5, 6, 7, 8, 9, 10, 0] rfl)
                · have c146 := c_19
                  refine lv_bipush (v := nI 12) cx.1 cx.2.1 dL_sizes_149 (by decide) ?_
                  refine lv_iload cx.1 cx.2.1 dL_sizes_151 (lv_at hl 10 rfl) ?_
                  refine lv_imul (x := 12) (y := nI sz) cx.1 cx.2.1 dL_sizes_153 ?_
                  refine lv_iload cx.1 cx.2.1 dL_sizes_154 (lv_at hl 7 rfl) ?_
                  refine lv_imul (x := 12 * (nI sz)) (y := xRows (Y 5) (nI (xn (Y 5)))) cx.1 cx.2.1 dL_sizes_156 ?_
                  refine lv_iload cx.1 cx.2.1 dL_sizes_157 (lv_at hl 9 rfl) ?_
                  refine lv_icmp_le (x := (12 * (nI sz)) * (xRows (Y 5) (nI (xn (Y 5))))) (y := (Y 5 5 3) - (2 * (Y 5 5 4))) (tgt := 168) cx.1 cx.2.1 dL_sizes_159 (by decide) (fun c_20 => ?_) (fun c_20 => ?_)
                  · exact jn126 sz ls hI9.1 (by first | exact zI_z hI9 c_20 | exact zI_n hI9 c_20 | exact zI_f hI9 (by omega) (by omega) c146 c_20) (lv_sub hl [9, 8, 7, 6, 0, 1, 2, 3, 4, 5, 10] rfl)
                  · have c159 := c_20
                    refine lv_iinc (v := nI (sz - 1)) (lv' := [(10, .int (nI (sz - 1))), (0, .ref (a 0)), (1, .int (nI w)), (2, .int (nI (xn (Y 5)))), (3, .int (xSize (Y 5))), (4, .int (xMostN (Y 5) (-1) (xn (Y 5)))), (5, .int (lA (Y 5) (xn (Y 5)))), (6, .int (Y 5 5 5)), (7, .int (xRows (Y 5) (nI (xn (Y 5))))), (8, .int (xCw (Y 5) (Y 5 5 2))), (9, .int ((Y 5 5 3) - (2 * (Y 5 5 4))))]) cx.1 cx.2.1 dL_sizes_162 hl (k := 10) rfl (nI_dec (by omega)) (by decide) rfl (fun ls hl => ?_)
                    refine lv_goto (tgt := 130) cx.1 cx.2.1 dL_sizes_165 (by decide) ?_
                    have hI8 : zI (Y 5) (sz - 1) := by first | exact zI_s hI9 (by omega) (by omega) (Or.inl c146) | exact zI_s hI9 (by omega) (by omega) (Or.inr c159)
                    exact ih130 (sz - 1) (by omega) hI8 ls (lv_sub hl [1, 2, 3, 4, 5, 6, 7, 8, 9, 10, 0] rfl)
        exact lp130 _ 40 (Nat.lt_succ_self _) (zI_0 hok) ls (lv_sub hl [5, 6, 7, 8, 9, 10, 4, 3, 2, 1, 0] rfl)
      · refine lv_aload_n cx.1 cx.2.1 dL_sizes_28 rfl (lv_at hl 0 rfl) ?_
        refine lv_iload cx.1 cx.2.1 dL_sizes_29 (lv_at hl 6 rfl) ?_
        refine lv_iconst (v := nI 1) cx.1 cx.2.1 dL_sizes_31 (by decide) ?_
        refine RO.callV (As := [.int (nI i), .int 1]) (rest := []) cx (c_X6_name l G a AD Y (nI i) 1 hok) gL_sizes_X6_name rfl hd_X6_name ⟨Nat.le_of_ble_eq_true rfl, Nat.le_of_ble_eq_true rfl⟩ (va_recv hK hP (ci := 5) (q0 := 0) rfl rfl) hK hN hP rfl hl.1 rfl (Nat.le_of_ble_eq_true rfl) dL_sizes_32 ⟨Nat.zero_le _, Nat.zero_le _⟩ ?_
        refine nv_eqi (y := xU (Y 5) i) (nm1 hok (by omega)) ?_
        refine lv_istore (lv' := [(7, .int (xU (Y 5) i)), (0, .ref (a 0)), (1, .int (nI w)), (2, .int (nI (xn (Y 5)))), (3, .int (xSize (Y 5))), (4, .int (xMostN (Y 5) (-1) i)), (5, .int (lA (Y 5) i)), (6, .int (nI i))]) cx.1 cx.2.1 dL_sizes_35 hl (by decide) rfl (fun ls hl => ?_)
        refine lv_iload cx.1 cx.2.1 dL_sizes_37 (lv_at hl 0 rfl) ?_
        refine lv_iload cx.1 cx.2.1 dL_sizes_39 (lv_at hl 5 rfl) ?_
        have jn41 : ∀ (ls : Array Slot), lv_has ls 13 [(7, .int (xU (Y 5) i)), (0, .ref (a 0)), (1, .int (nI w)), (2, .int (nI (xn (Y 5)))), (3, .int (xSize (Y 5))), (4, .int (xMostN (Y 5) (-1) i)), (5, .int (lA (Y 5) i)), (6, .int (nI i))] → W p l e ({ frames := 7, cells := 0, slots := 0, locals := 166 } : Room) s m [.ref (a 0), .int (nI w)].toArray below meth c s.heap [] 0 0 (MQ below (vp_Si (fun r => r = (b2i true))) [.ref (a 0), .int (nI w)].toArray s 0 0 (fun _ => False)) (F0 m 51 ls [.int (lA (Y 5) (i + 1))]) := by
          intro  ls  hl
          refine lv_istore (lv' := [(5, .int (lA (Y 5) (i + 1))), (7, .int (xU (Y 5) i)), (0, .ref (a 0)), (1, .int (nI w)), (2, .int (nI (xn (Y 5)))), (3, .int (xSize (Y 5))), (4, .int (xMostN (Y 5) (-1) i)), (6, .int (nI i))]) cx.1 cx.2.1 dL_sizes_51 hl (by decide) rfl (fun ls hl => ?_)
          refine lv_iload cx.1 cx.2.1 dL_sizes_53 (lv_at hl 1 rfl) ?_
          refine lv_iload cx.1 cx.2.1 dL_sizes_55 (lv_at hl 6 rfl) ?_
          have jn57 : ∀ (ls : Array Slot), lv_has ls 13 [(5, .int (lA (Y 5) (i + 1))), (7, .int (xU (Y 5) i)), (0, .ref (a 0)), (1, .int (nI w)), (2, .int (nI (xn (Y 5)))), (3, .int (xSize (Y 5))), (4, .int (xMostN (Y 5) (-1) i)), (6, .int (nI i))] → W p l e ({ frames := 7, cells := 0, slots := 0, locals := 166 } : Room) s m [.ref (a 0), .int (nI w)].toArray below meth c s.heap [] 0 0 (MQ below (vp_Si (fun r => r = (b2i true))) [.ref (a 0), .int (nI w)].toArray s 0 0 (fun _ => False)) (F0 m 67 ls [.int (xMostN (Y 5) (-1) (i + 1))]) := by
            intro  ls  hl
            refine lv_istore (lv' := [(4, .int (xMostN (Y 5) (-1) (i + 1))), (5, .int (lA (Y 5) (i + 1))), (7, .int (xU (Y 5) i)), (0, .ref (a 0)), (1, .int (nI w)), (2, .int (nI (xn (Y 5)))), (3, .int (xSize (Y 5))), (6, .int (nI i))]) cx.1 cx.2.1 dL_sizes_67 hl (by decide) rfl (fun ls hl => ?_)
            refine lv_iinc (v := nI (i + 1)) (lv' := [(6, .int (nI (i + 1))), (4, .int (xMostN (Y 5) (-1) (i + 1))), (5, .int (lA (Y 5) (i + 1))), (7, .int (xU (Y 5) i)), (0, .ref (a 0)), (1, .int (nI w)), (2, .int (nI (xn (Y 5)))), (3, .int (xSize (Y 5)))]) cx.1 cx.2.1 dL_sizes_69 hl (k := 7) rfl (show nI i + Int32.ofInt 1 = nI (i + 1) from nI_add i 1) (by decide) rfl (fun ls hl => ?_)
            refine lv_goto (tgt := 22) cx.1 cx.2.1 dL_sizes_72 (by decide) ?_
            exact ih22 (i + 1) (by omega) (by omega) ls (lv_sub hl [4, 5, 6, 7, 1, 2, 0] rfl)
          refine lv_icmp_le (x := xU (Y 5) i) (y := xMostN (Y 5) (-1) i) (tgt := 65) cx.1 cx.2.1 dL_sizes_57 (by decide) (fun c_21 => ?_) (fun c_21 => ?_)
          · refine lv_iload cx.1 cx.2.1 dL_sizes_65 (lv_at hl 6 rfl) ?_
            refine nv_eqi (y := xMostN (Y 5) (-1) (i + 1)) (by first | exact ((xMost_s (Y 5) (by omega)).trans (if_pos (Int32.not_le.mp c_21))).symm | exact ((xMost_s (Y 5) (by omega)).trans (if_neg (Int32.not_lt.mpr c_21))).symm) ?_
            exact jn57  ls  hl
          · refine lv_iload cx.1 cx.2.1 dL_sizes_60 (lv_at hl 1 rfl) ?_
            refine lv_goto (tgt := 67) cx.1 cx.2.1 dL_sizes_62 (by decide) ?_
            refine nv_eqi (y := xMostN (Y 5) (-1) (i + 1)) (by first | exact ((xMost_s (Y 5) (by omega)).trans (if_pos (Int32.not_le.mp c_21))).symm | exact ((xMost_s (Y 5) (by omega)).trans (if_neg (Int32.not_lt.mpr c_21))).symm) ?_
            exact jn57  ls  hl
        refine lv_icmp_le (x := xU (Y 5) i) (y := xMostN (Y 5) (-1) i) (tgt := 49) cx.1 cx.2.1 dL_sizes_41 (by decide) (fun c_22 => ?_) (fun c_22 => ?_)
        · refine lv_iload cx.1 cx.2.1 dL_sizes_49 (lv_at hl 6 rfl) ?_
          refine nv_eqi (y := lA (Y 5) (i + 1)) (by first | exact (if_pos (Int32.not_le.mp c_22)).symm | exact (if_neg (Int32.not_lt.mpr c_22)).symm) ?_
          exact jn41  ls  hl
        · refine lv_iload cx.1 cx.2.1 dL_sizes_44 (lv_at hl 7 rfl) ?_
          refine lv_goto (tgt := 51) cx.1 cx.2.1 dL_sizes_46 (by decide) ?_
          refine nv_eqi (y := lA (Y 5) (i + 1)) (by first | exact (if_pos (Int32.not_le.mp c_22)).symm | exact (if_neg (Int32.not_lt.mpr c_22)).symm) ?_
          exact jn41  ls  hl
  exact lp22 _ 0 (Nat.lt_succ_self _) (by omega) ls (lv_sub hl [5, 6, 4, 3, 2, 1, 0] rfl)
