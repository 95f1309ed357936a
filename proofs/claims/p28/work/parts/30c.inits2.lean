/-! ===== the constructors of the plate and of the model: laid by program (wip/whole/layi.py) ===== -/
theorem pq_set {D : va_G} {cl : List vw_C} {ws ws1 : va_W} {H : Heap} {a n k : Nat} {cA : ClassId} {f g : Nat → Option Nat} (hP : va_P D cl ws H) (hk : ws[k]? = some (a, .inl (cA, n, .inr (.inr (.inr (.inr f)))))) (e : ∀ i, i < n → f i = g i) (hw : ws.set k (a, .inl (cA, n, .inr (.inr (.inr (.inr g))))) = ws1) : va_P D cl ws1 H := by
  subst hw
  intro j q hj
  by_cases y : j = k
  · subst y
    rw [List.getElem?_set_self ((List.getElem?_eq_some_iff.mp hk).1)] at hj
    cases hj
    have h0 := hP j _ hk
    show H[a]? = some (vp_cell cA (n, .inr (.inr (.inr (.inr g)))))
    have h1 : H[a]? = some (vp_cell cA (n, .inr (.inr (.inr (.inr f))))) := h0
    rw [h1, vp_cell_q, vp_cell_q]
    unfold arrV
    congr 3
    funext i
    show va_rf (f i.val) = va_rf (g i.val)
    rw [e i.val i.isLt]
  · rw [List.getElem?_set_ne (Ne.symm y)] at hj
    exact hP j q hj
def MZ : XS := fun i => if i = 0 then upd (upd (upd (upd (fun _ => 0) 0 (nI 2000)) 1 (nI 1000)) 2 (nI 20)) 3 (nI 1) else fun _ => 0
def YZ : Nat → XS := fun i => if i = 7 then (fun _ _ => 0) else XZ
theorem iw_X0_init_X0 : ∀ w ∈ wsX00, w ∈ wsX0_init := fun _ h => List.mem_cons_of_mem _ (List.mem_append_left _ (List.mem_append_left _ (List.mem_append_left _ (List.mem_append_right _ h))))
theorem iw_X0_init_X1 : ∀ w ∈ wsX10, w ∈ wsX0_init := fun _ h => List.mem_cons_of_mem _ (List.mem_append_left _ (List.mem_append_right _ h))
theorem iw_X0_init_X2 : ∀ w ∈ wsX20, w ∈ wsX0_init := fun _ h => List.mem_cons_of_mem _ (List.mem_append_right _ h)
theorem iw_X0_init_X4 : ∀ w ∈ wsX40, w ∈ wsX0_init := fun _ h => List.mem_cons_of_mem _ (List.mem_append_left _ (List.mem_append_left _ (List.mem_append_right _ h)))
set_option maxHeartbeats 4000000 in
set_option maxRecDepth 100000 in
theorem c_X0_init (l : Launch) (G : GG) (b sz : Nat) : MK l yX0_init wsX0_init 3 52 41 2030 G [(b, .inr (0, [.null, .int 0, .int 0]))] b sz (fun u => ∃ (q : Nat) (AD : Nat → Nat → Nat), u = [(b, .inr (0, [.ref q, .int (nI 0), .int (nI 0)])), (q, .inl (G.2.2.2, 5, .inr (.inr (.inr (.inr (fun i => some (AD i 0)))))))] ++ plT G AD (fun _ => XZ) 5) := by
  refine MK.start (cc := cX0_init) (maxL := 2) (by decide) rfl (Nat.le_of_ble_eq_true rfl) rfl ?_
  intro p e s m below meth c ls A cx hr hlocks hin hI hP hD hS hA hl
  have cx : CallFix p m c cX0_init 2 s [Value.ref b].toArray wsX0_init RX0 := cx
  have hl : lv_has ls 2 [(0, .ref b)] := hl
  have hK := hI.1
  refine lv_aload_n cx.1 cx.2.1 dX0_init_0 rfl (lv_at hl 0 rfl) ?_
  refine nv_obj cx (idx := 3) (List.mem_of_getElem? (i := 1) rfl) (List.mem_of_getElem? (i := 2) rfl) (List.mem_of_getElem? (i := 3) rfl) hl.1 rfl dX0_init_1 (Nat.le_of_ble_eq_true rfl) (Nat.le_of_ble_eq_true rfl) ?_
  refine lv_aload_n cx.1 cx.2.1 dX0_init_4 rfl (lv_at hl 0 rfl) ?_
  refine lv_iconst (v := nI 5) cx.1 cx.2.1 dX0_init_5 (by decide) ?_
  refine nv_newq (N := 5) cx (List.mem_of_getElem? (i := 4) rfl) hI hP hD hS hA (by decide) (by decide) (Nat.le_of_ble_eq_true rfl) (Nat.le_of_ble_eq_true rfl) dX0_init_6 (fun q1 H hP hD hS => ?_)
  have hP : va_P G.1 vwCl [(b, .inr (0, [.null, .int 0, .int 0])), (q1, .inl (G.2.2.2, 5, .inr (.inr (.inr (.inr (fun _ => none))))))] H := hP
  have hD : va_D A [(b, .inr (0, [.null, .int 0, .int 0])), (q1, .inl (G.2.2.2, 5, .inr (.inr (.inr (.inr (fun _ => none))))))] := hD
  refine va_putF (D := G.1) (ci := 0) (v := .ref q1) (ty := .array (.object "NamePlate$State")) (C := RX0) (T := TX0) (N := 3) cx.1 cx.2.1 cx.2.2.2.2 iw_X0_init_X0 tyX0 tyX0_ok nmX0 cx.2.2.2.1 hK hP hD hS 0 rfl rfl 0 (by decide) (cx.2.2.2.2 _ (show Cond.fieldLink RX0 11 "NamePlate$History" "states" "[LNamePlate$State;" ∈ wsX0_init from List.mem_of_getElem? (i := 5) rfl)) (fun _ h9 => h9) rfl hin rfl (by decide +kernel) rfl rfl (Nat.le_of_ble_eq_true rfl) dX0_init_9 (fun H locs hP hD hS => ?_)
  have hP : va_P G.1 vwCl [(b, .inr (0, [.ref q1, .int 0, .int 0])), (q1, .inl (G.2.2.2, 5, .inr (.inr (.inr (.inr (fun _ => none))))))] H := hP
  have hD : va_D A [(b, .inr (0, [.ref q1, .int 0, .int 0])), (q1, .inl (G.2.2.2, 5, .inr (.inr (.inr (.inr (fun _ => none))))))] := hD
  refine lv_aload_n cx.1 cx.2.1 dX0_init_12 rfl (lv_at hl 0 rfl) ?_
  refine lv_iconst (v := nI 0) cx.1 cx.2.1 dX0_init_13 (by decide) ?_
  refine va_put (D := G.1) (ci := 0) (v := .int (nI 0)) (ty := .int) (C := RX0) (T := TX0) (N := 3) cx.1 cx.2.1 cx.2.2.2.2 iw_X0_init_X0 tyX0 tyX0_ok nmX0 cx.2.2.2.1 hK hP hD hS 0 rfl rfl 1 (by decide) (cx.2.2.2.2 _ (show Cond.fieldLink RX0 17 "NamePlate$History" "oldest" "I" ∈ wsX0_init from List.mem_of_getElem? (i := 6) rfl)) (fun _ h9 => h9) rfl (by decide +kernel) rfl rfl (Nat.le_of_ble_eq_true rfl) dX0_init_14 (fun H locs hP hD hS => ?_)
  have hP : va_P G.1 vwCl [(b, .inr (0, [.ref q1, .int (nI 0), .int 0])), (q1, .inl (G.2.2.2, 5, .inr (.inr (.inr (.inr (fun _ => none))))))] H := hP
  have hD : va_D A [(b, .inr (0, [.ref q1, .int (nI 0), .int 0])), (q1, .inl (G.2.2.2, 5, .inr (.inr (.inr (.inr (fun _ => none))))))] := hD
  refine lv_aload_n cx.1 cx.2.1 dX0_init_17 rfl (lv_at hl 0 rfl) ?_
  refine lv_iconst (v := nI 0) cx.1 cx.2.1 dX0_init_18 (by decide) ?_
  refine va_put (D := G.1) (ci := 0) (v := .int (nI 0)) (ty := .int) (C := RX0) (T := TX0) (N := 3) cx.1 cx.2.1 cx.2.2.2.2 iw_X0_init_X0 tyX0 tyX0_ok nmX0 cx.2.2.2.1 hK hP hD hS 0 rfl rfl 2 (by decide) (cx.2.2.2.2 _ (show Cond.fieldLink RX0 21 "NamePlate$History" "number" "I" ∈ wsX0_init from List.mem_of_getElem? (i := 7) rfl)) (fun _ h9 => h9) rfl (by decide +kernel) rfl rfl (Nat.le_of_ble_eq_true rfl) dX0_init_19 (fun H locs hP hD hS => ?_)
  have hP : va_P G.1 vwCl [(b, .inr (0, [.ref q1, .int (nI 0), .int (nI 0)])), (q1, .inl (G.2.2.2, 5, .inr (.inr (.inr (.inr (fun _ => none))))))] H := hP
  have hD : va_D A [(b, .inr (0, [.ref q1, .int (nI 0), .int (nI 0)])), (q1, .inl (G.2.2.2, 5, .inr (.inr (.inr (.inr (fun _ => none))))))] := hD
  refine lv_iconst (v := nI 0) cx.1 cx.2.1 dX0_init_22 (by decide) ?_
  refine lv_istore_n (lv' := [(1, .int (nI 0)), (0, .ref b)]) cx.1 cx.2.1 dX0_init_23 rfl hl (by decide) rfl (fun ls hl => ?_)
  refine lv_iload_n cx.1 cx.2.1 dX0_init_24 rfl (lv_at hl 0 rfl) ?_
  refine lv_iconst (v := nI 5) cx.1 cx.2.1 dX0_init_25 (by decide) ?_
  refine nv_icmp_ge (tgt := 48) cx dX0_init_26 (by decide) (by decide) (by decide) (fun q => absurd q (by decide)) (fun _ => ?_)
  refine lv_aload_n cx.1 cx.2.1 dX0_init_29 rfl (lv_at hl 1 rfl) ?_
  refine va_get (D := G.1) (ci := 0) (C := RX0) (T := TX0) (N := 3) (v := .ref q1) cx.1 cx.2.1 cx.2.2.2.2 iw_X0_init_X0 cx.2.2.2.1 hK hP 0 rfl rfl 0 (by decide) (cx.2.2.2.2 _ (show Cond.fieldLink RX0 11 "NamePlate$History" "states" "[LNamePlate$State;" ∈ wsX0_init from List.mem_of_getElem? (i := 5) rfl)) (fun _ h9 => h9) rfl dX0_init_30 ?_
  refine lv_iload_n cx.1 cx.2.1 dX0_init_33 rfl (lv_at hl 0 rfl) ?_
  refine va_new (D := G.1) (ci := 3) (fs := [.null, .null, .int 0, .int 0, .int 0, .int 0, .int 0, .int 0, .int 0, .int 0]) (C := RX4) (T := TX4) (N := 10) cx.1 cx.2.1 cx.2.2.2.2 iw_X0_init_X4 tyX4 tyX4_ok cx.2.2.2.1 (cx.2.2.2.2 _ (show Cond.classLink RX0 9 RX4 ∈ wsX0_init from List.mem_of_getElem? (i := 4) rfl)) (cx.2.2.2.2 _ (show Cond.instantiable RX4 10 ∈ wsX0_init from List.mem_of_getElem? (i := 8) rfl)) (cx.2.2.2.2 _ (show Cond.initialized RX4 ∈ wsX0_init from List.mem_of_getElem? (i := 9) rfl)) hK hP hD hS hA rfl (fun j hj => by rcases (show j = 0 ∨ j = 1 ∨ j = 2 ∨ j = 3 ∨ j = 4 ∨ j = 5 ∨ j = 6 ∨ j = 7 ∨ j = 8 ∨ j = 9 by omega) with rfl | rfl | rfl | rfl | rfl | rfl | rfl | rfl | rfl | rfl <;> rfl) (Nat.le_of_ble_eq_true rfl) (Nat.le_of_ble_eq_true rfl) dX0_init_34 (fun q2 H hP hD hS => ?_)
  refine lv_dup cx.1 cx.2.1 dX0_init_37 rfl ?_
  refine MK.callN (ws := [(b, .inr (0, [.ref q1, .int (nI 0), .int (nI 0)])), (q1, .inl (G.2.2.2, 5, .inr (.inr (.inr (.inr (fun _ => none))))))]) (rest := [.ref q2, .int (nI 0), .ref q1]) (host := "NamePlate") cx (c_X4_init l G q2 H.size) ggX0_init_X4_init rfl (hI.2.1.at 3 rfl) (show Cond.initialized RX4 ∈ wsX0_init from List.mem_of_getElem? (i := 9) rfl) (show Cond.instanceMethod yX4_init ∈ wsX0_init from List.mem_of_getElem? (i := 10) rfl) rfl (by decide +kernel) ⟨Nat.le_of_ble_eq_true rfl, Nat.le_of_ble_eq_true rfl⟩ hI hP hD hS hA hl.1 rfl (Nat.le_of_ble_eq_true rfl) dX0_init_38 ⟨Nat.le_of_ble_eq_true rfl, Nat.le_of_ble_eq_true rfl⟩ (fun u H locs hw hP hD hS => ?_)
  obtain ⟨ad3, rfl, rfl⟩ := hw
  have hP : va_P G.1 vwCl ([(b, .inr (0, [.ref q1, .int (nI 0), .int (nI 0)])), (q1, .inl (G.2.2.2, 5, .inr (.inr (.inr (.inr (fun _ => none))))))] ++ stC G ad3 XZ) H := hP
  have hD : va_D A ([(b, .inr (0, [.ref q1, .int (nI 0), .int (nI 0)])), (q1, .inl (G.2.2.2, 5, .inr (.inr (.inr (.inr (fun _ => none))))))] ++ stC G ad3 XZ) := hD
  refine va_astq cx.1 cx.2.1 hK hP hD hS 1 2 2 3 (r := (RX4, TX4, 10)) rfl rfl rfl rfl (i := nI 0) (vp_in_nI (by decide) (by decide)) dX0_init_41 (fun H locs hP hD hS => ?_)
  have hP : va_P G.1 vwCl ([(b, .inr (0, [.ref q1, .int (nI 0), .int (nI 0)])), (q1, .inl (G.2.2.2, 5, .inr (.inr (.inr (.inr (va_up (fun _ => none) 0 (some (ad3 0))))))))] ++ stC G ad3 XZ) H := hP
  have hD : va_D A ([(b, .inr (0, [.ref q1, .int (nI 0), .int (nI 0)])), (q1, .inl (G.2.2.2, 5, .inr (.inr (.inr (.inr (va_up (fun _ => none) 0 (some (ad3 0))))))))] ++ stC G ad3 XZ) := hD
  refine lv_iinc (v := nI 1) (lv' := [(1, .int (nI 1)), (0, .ref b)]) cx.1 cx.2.1 dX0_init_42 hl (k := 0) rfl (show nI 0 + Int32.ofInt 1 = nI (0 + 1) from nI_add 0 1) (by decide) rfl (fun ls hl => ?_)
  refine lv_goto (tgt := 24) cx.1 cx.2.1 dX0_init_45 (by decide) ?_
  refine lv_iload_n cx.1 cx.2.1 dX0_init_24 rfl (lv_at hl 0 rfl) ?_
  refine lv_iconst (v := nI 5) cx.1 cx.2.1 dX0_init_25 (by decide) ?_
  refine nv_icmp_ge (tgt := 48) cx dX0_init_26 (by decide) (by decide) (by decide) (fun q => absurd q (by decide)) (fun _ => ?_)
  refine lv_aload_n cx.1 cx.2.1 dX0_init_29 rfl (lv_at hl 1 rfl) ?_
  refine va_get (D := G.1) (ci := 0) (C := RX0) (T := TX0) (N := 3) (v := .ref q1) cx.1 cx.2.1 cx.2.2.2.2 iw_X0_init_X0 cx.2.2.2.1 hK hP 0 rfl rfl 0 (by decide) (cx.2.2.2.2 _ (show Cond.fieldLink RX0 11 "NamePlate$History" "states" "[LNamePlate$State;" ∈ wsX0_init from List.mem_of_getElem? (i := 5) rfl)) (fun _ h9 => h9) rfl dX0_init_30 ?_
  refine lv_iload_n cx.1 cx.2.1 dX0_init_33 rfl (lv_at hl 0 rfl) ?_
  refine va_new (D := G.1) (ci := 3) (fs := [.null, .null, .int 0, .int 0, .int 0, .int 0, .int 0, .int 0, .int 0, .int 0]) (C := RX4) (T := TX4) (N := 10) cx.1 cx.2.1 cx.2.2.2.2 iw_X0_init_X4 tyX4 tyX4_ok cx.2.2.2.1 (cx.2.2.2.2 _ (show Cond.classLink RX0 9 RX4 ∈ wsX0_init from List.mem_of_getElem? (i := 4) rfl)) (cx.2.2.2.2 _ (show Cond.instantiable RX4 10 ∈ wsX0_init from List.mem_of_getElem? (i := 8) rfl)) (cx.2.2.2.2 _ (show Cond.initialized RX4 ∈ wsX0_init from List.mem_of_getElem? (i := 9) rfl)) hK hP hD hS hA rfl (fun j hj => by rcases (show j = 0 ∨ j = 1 ∨ j = 2 ∨ j = 3 ∨ j = 4 ∨ j = 5 ∨ j = 6 ∨ j = 7 ∨ j = 8 ∨ j = 9 by omega) with rfl | rfl | rfl | rfl | rfl | rfl | rfl | rfl | rfl | rfl <;> rfl) (Nat.le_of_ble_eq_true rfl) (Nat.le_of_ble_eq_true rfl) dX0_init_34 (fun q4 H hP hD hS => ?_)
  refine lv_dup cx.1 cx.2.1 dX0_init_37 rfl ?_
  refine MK.callN (ws := ([(b, .inr (0, [.ref q1, .int (nI 0), .int (nI 0)])), (q1, .inl (G.2.2.2, 5, .inr (.inr (.inr (.inr (va_up (fun _ => none) 0 (some (ad3 0))))))))] ++ stC G ad3 XZ)) (rest := [.ref q4, .int (nI 1), .ref q1]) (host := "NamePlate") cx (c_X4_init l G q4 H.size) ggX0_init_X4_init rfl (hI.2.1.at 3 rfl) (show Cond.initialized RX4 ∈ wsX0_init from List.mem_of_getElem? (i := 9) rfl) (show Cond.instanceMethod yX4_init ∈ wsX0_init from List.mem_of_getElem? (i := 10) rfl) rfl (by decide +kernel) ⟨Nat.le_of_ble_eq_true rfl, Nat.le_of_ble_eq_true rfl⟩ hI hP hD hS hA hl.1 rfl (Nat.le_of_ble_eq_true rfl) dX0_init_38 ⟨Nat.le_of_ble_eq_true rfl, Nat.le_of_ble_eq_true rfl⟩ (fun u H locs hw hP hD hS => ?_)
  obtain ⟨ad5, rfl, rfl⟩ := hw
  have hP : va_P G.1 vwCl (([(b, .inr (0, [.ref q1, .int (nI 0), .int (nI 0)])), (q1, .inl (G.2.2.2, 5, .inr (.inr (.inr (.inr (va_up (fun _ => none) 0 (some (ad3 0))))))))] ++ stC G ad3 XZ) ++ stC G ad5 XZ) H := hP
  have hD : va_D A (([(b, .inr (0, [.ref q1, .int (nI 0), .int (nI 0)])), (q1, .inl (G.2.2.2, 5, .inr (.inr (.inr (.inr (va_up (fun _ => none) 0 (some (ad3 0))))))))] ++ stC G ad3 XZ) ++ stC G ad5 XZ) := hD
  refine va_astq cx.1 cx.2.1 hK hP hD hS 1 2 10 3 (r := (RX4, TX4, 10)) rfl rfl rfl rfl (i := nI 1) (vp_in_nI (by decide) (by decide)) dX0_init_41 (fun H locs hP hD hS => ?_)
  have hP : va_P G.1 vwCl (([(b, .inr (0, [.ref q1, .int (nI 0), .int (nI 0)])), (q1, .inl (G.2.2.2, 5, .inr (.inr (.inr (.inr (va_up (va_up (fun _ => none) 0 (some (ad3 0))) 1 (some (ad5 0))))))))] ++ stC G ad3 XZ) ++ stC G ad5 XZ) H := hP
  have hD : va_D A (([(b, .inr (0, [.ref q1, .int (nI 0), .int (nI 0)])), (q1, .inl (G.2.2.2, 5, .inr (.inr (.inr (.inr (va_up (va_up (fun _ => none) 0 (some (ad3 0))) 1 (some (ad5 0))))))))] ++ stC G ad3 XZ) ++ stC G ad5 XZ) := hD
  refine lv_iinc (v := nI 2) (lv' := [(1, .int (nI 2)), (0, .ref b)]) cx.1 cx.2.1 dX0_init_42 hl (k := 0) rfl (show nI 1 + Int32.ofInt 1 = nI (1 + 1) from nI_add 1 1) (by decide) rfl (fun ls hl => ?_)
  refine lv_goto (tgt := 24) cx.1 cx.2.1 dX0_init_45 (by decide) ?_
  refine lv_iload_n cx.1 cx.2.1 dX0_init_24 rfl (lv_at hl 0 rfl) ?_
  refine lv_iconst (v := nI 5) cx.1 cx.2.1 dX0_init_25 (by decide) ?_
  refine nv_icmp_ge (tgt := 48) cx dX0_init_26 (by decide) (by decide) (by decide) (fun q => absurd q (by decide)) (fun _ => ?_)
  refine lv_aload_n cx.1 cx.2.1 dX0_init_29 rfl (lv_at hl 1 rfl) ?_
  refine va_get (D := G.1) (ci := 0) (C := RX0) (T := TX0) (N := 3) (v := .ref q1) cx.1 cx.2.1 cx.2.2.2.2 iw_X0_init_X0 cx.2.2.2.1 hK hP 0 rfl rfl 0 (by decide) (cx.2.2.2.2 _ (show Cond.fieldLink RX0 11 "NamePlate$History" "states" "[LNamePlate$State;" ∈ wsX0_init from List.mem_of_getElem? (i := 5) rfl)) (fun _ h9 => h9) rfl dX0_init_30 ?_
  refine lv_iload_n cx.1 cx.2.1 dX0_init_33 rfl (lv_at hl 0 rfl) ?_
  refine va_new (D := G.1) (ci := 3) (fs := [.null, .null, .int 0, .int 0, .int 0, .int 0, .int 0, .int 0, .int 0, .int 0]) (C := RX4) (T := TX4) (N := 10) cx.1 cx.2.1 cx.2.2.2.2 iw_X0_init_X4 tyX4 tyX4_ok cx.2.2.2.1 (cx.2.2.2.2 _ (show Cond.classLink RX0 9 RX4 ∈ wsX0_init from List.mem_of_getElem? (i := 4) rfl)) (cx.2.2.2.2 _ (show Cond.instantiable RX4 10 ∈ wsX0_init from List.mem_of_getElem? (i := 8) rfl)) (cx.2.2.2.2 _ (show Cond.initialized RX4 ∈ wsX0_init from List.mem_of_getElem? (i := 9) rfl)) hK hP hD hS hA rfl (fun j hj => by rcases (show j = 0 ∨ j = 1 ∨ j = 2 ∨ j = 3 ∨ j = 4 ∨ j = 5 ∨ j = 6 ∨ j = 7 ∨ j = 8 ∨ j = 9 by omega) with rfl | rfl | rfl | rfl | rfl | rfl | rfl | rfl | rfl | rfl <;> rfl) (Nat.le_of_ble_eq_true rfl) (Nat.le_of_ble_eq_true rfl) dX0_init_34 (fun q6 H hP hD hS => ?_)
  refine lv_dup cx.1 cx.2.1 dX0_init_37 rfl ?_
  refine MK.callN (ws := (([(b, .inr (0, [.ref q1, .int (nI 0), .int (nI 0)])), (q1, .inl (G.2.2.2, 5, .inr (.inr (.inr (.inr (va_up (va_up (fun _ => none) 0 (some (ad3 0))) 1 (some (ad5 0))))))))] ++ stC G ad3 XZ) ++ stC G ad5 XZ)) (rest := [.ref q6, .int (nI 2), .ref q1]) (host := "NamePlate") cx (c_X4_init l G q6 H.size) ggX0_init_X4_init rfl (hI.2.1.at 3 rfl) (show Cond.initialized RX4 ∈ wsX0_init from List.mem_of_getElem? (i := 9) rfl) (show Cond.instanceMethod yX4_init ∈ wsX0_init from List.mem_of_getElem? (i := 10) rfl) rfl (by decide +kernel) ⟨Nat.le_of_ble_eq_true rfl, Nat.le_of_ble_eq_true rfl⟩ hI hP hD hS hA hl.1 rfl (Nat.le_of_ble_eq_true rfl) dX0_init_38 ⟨Nat.le_of_ble_eq_true rfl, Nat.le_of_ble_eq_true rfl⟩ (fun u H locs hw hP hD hS => ?_)
  obtain ⟨ad7, rfl, rfl⟩ := hw
  have hP : va_P G.1 vwCl ((([(b, .inr (0, [.ref q1, .int (nI 0), .int (nI 0)])), (q1, .inl (G.2.2.2, 5, .inr (.inr (.inr (.inr (va_up (va_up (fun _ => none) 0 (some (ad3 0))) 1 (some (ad5 0))))))))] ++ stC G ad3 XZ) ++ stC G ad5 XZ) ++ stC G ad7 XZ) H := hP
  have hD : va_D A ((([(b, .inr (0, [.ref q1, .int (nI 0), .int (nI 0)])), (q1, .inl (G.2.2.2, 5, .inr (.inr (.inr (.inr (va_up (va_up (fun _ => none) 0 (some (ad3 0))) 1 (some (ad5 0))))))))] ++ stC G ad3 XZ) ++ stC G ad5 XZ) ++ stC G ad7 XZ) := hD
  refine va_astq cx.1 cx.2.1 hK hP hD hS 1 2 18 3 (r := (RX4, TX4, 10)) rfl rfl rfl rfl (i := nI 2) (vp_in_nI (by decide) (by decide)) dX0_init_41 (fun H locs hP hD hS => ?_)
  have hP : va_P G.1 vwCl ((([(b, .inr (0, [.ref q1, .int (nI 0), .int (nI 0)])), (q1, .inl (G.2.2.2, 5, .inr (.inr (.inr (.inr (va_up (va_up (va_up (fun _ => none) 0 (some (ad3 0))) 1 (some (ad5 0))) 2 (some (ad7 0))))))))] ++ stC G ad3 XZ) ++ stC G ad5 XZ) ++ stC G ad7 XZ) H := hP
  have hD : va_D A ((([(b, .inr (0, [.ref q1, .int (nI 0), .int (nI 0)])), (q1, .inl (G.2.2.2, 5, .inr (.inr (.inr (.inr (va_up (va_up (va_up (fun _ => none) 0 (some (ad3 0))) 1 (some (ad5 0))) 2 (some (ad7 0))))))))] ++ stC G ad3 XZ) ++ stC G ad5 XZ) ++ stC G ad7 XZ) := hD
  refine lv_iinc (v := nI 3) (lv' := [(1, .int (nI 3)), (0, .ref b)]) cx.1 cx.2.1 dX0_init_42 hl (k := 0) rfl (show nI 2 + Int32.ofInt 1 = nI (2 + 1) from nI_add 2 1) (by decide) rfl (fun ls hl => ?_)
  refine lv_goto (tgt := 24) cx.1 cx.2.1 dX0_init_45 (by decide) ?_
  refine lv_iload_n cx.1 cx.2.1 dX0_init_24 rfl (lv_at hl 0 rfl) ?_
  refine lv_iconst (v := nI 5) cx.1 cx.2.1 dX0_init_25 (by decide) ?_
  refine nv_icmp_ge (tgt := 48) cx dX0_init_26 (by decide) (by decide) (by decide) (fun q => absurd q (by decide)) (fun _ => ?_)
  refine lv_aload_n cx.1 cx.2.1 dX0_init_29 rfl (lv_at hl 1 rfl) ?_
  refine va_get (D := G.1) (ci := 0) (C := RX0) (T := TX0) (N := 3) (v := .ref q1) cx.1 cx.2.1 cx.2.2.2.2 iw_X0_init_X0 cx.2.2.2.1 hK hP 0 rfl rfl 0 (by decide) (cx.2.2.2.2 _ (show Cond.fieldLink RX0 11 "NamePlate$History" "states" "[LNamePlate$State;" ∈ wsX0_init from List.mem_of_getElem? (i := 5) rfl)) (fun _ h9 => h9) rfl dX0_init_30 ?_
  refine lv_iload_n cx.1 cx.2.1 dX0_init_33 rfl (lv_at hl 0 rfl) ?_
  refine va_new (D := G.1) (ci := 3) (fs := [.null, .null, .int 0, .int 0, .int 0, .int 0, .int 0, .int 0, .int 0, .int 0]) (C := RX4) (T := TX4) (N := 10) cx.1 cx.2.1 cx.2.2.2.2 iw_X0_init_X4 tyX4 tyX4_ok cx.2.2.2.1 (cx.2.2.2.2 _ (show Cond.classLink RX0 9 RX4 ∈ wsX0_init from List.mem_of_getElem? (i := 4) rfl)) (cx.2.2.2.2 _ (show Cond.instantiable RX4 10 ∈ wsX0_init from List.mem_of_getElem? (i := 8) rfl)) (cx.2.2.2.2 _ (show Cond.initialized RX4 ∈ wsX0_init from List.mem_of_getElem? (i := 9) rfl)) hK hP hD hS hA rfl (fun j hj => by rcases (show j = 0 ∨ j = 1 ∨ j = 2 ∨ j = 3 ∨ j = 4 ∨ j = 5 ∨ j = 6 ∨ j = 7 ∨ j = 8 ∨ j = 9 by omega) with rfl | rfl | rfl | rfl | rfl | rfl | rfl | rfl | rfl | rfl <;> rfl) (Nat.le_of_ble_eq_true rfl) (Nat.le_of_ble_eq_true rfl) dX0_init_34 (fun q8 H hP hD hS => ?_)
  refine lv_dup cx.1 cx.2.1 dX0_init_37 rfl ?_
  refine MK.callN (ws := ((([(b, .inr (0, [.ref q1, .int (nI 0), .int (nI 0)])), (q1, .inl (G.2.2.2, 5, .inr (.inr (.inr (.inr (va_up (va_up (va_up (fun _ => none) 0 (some (ad3 0))) 1 (some (ad5 0))) 2 (some (ad7 0))))))))] ++ stC G ad3 XZ) ++ stC G ad5 XZ) ++ stC G ad7 XZ)) (rest := [.ref q8, .int (nI 3), .ref q1]) (host := "NamePlate") cx (c_X4_init l G q8 H.size) ggX0_init_X4_init rfl (hI.2.1.at 3 rfl) (show Cond.initialized RX4 ∈ wsX0_init from List.mem_of_getElem? (i := 9) rfl) (show Cond.instanceMethod yX4_init ∈ wsX0_init from List.mem_of_getElem? (i := 10) rfl) rfl (by decide +kernel) ⟨Nat.le_of_ble_eq_true rfl, Nat.le_of_ble_eq_true rfl⟩ hI hP hD hS hA hl.1 rfl (Nat.le_of_ble_eq_true rfl) dX0_init_38 ⟨Nat.le_of_ble_eq_true rfl, Nat.le_of_ble_eq_true rfl⟩ (fun u H locs hw hP hD hS => ?_)
  obtain ⟨ad9, rfl, rfl⟩ := hw
  have hP : va_P G.1 vwCl (((([(b, .inr (0, [.ref q1, .int (nI 0), .int (nI 0)])), (q1, .inl (G.2.2.2, 5, .inr (.inr (.inr (.inr (va_up (va_up (va_up (fun _ => none) 0 (some (ad3 0))) 1 (some (ad5 0))) 2 (some (ad7 0))))))))] ++ stC G ad3 XZ) ++ stC G ad5 XZ) ++ stC G ad7 XZ) ++ stC G ad9 XZ) H := hP
  have hD : va_D A (((([(b, .inr (0, [.ref q1, .int (nI 0), .int (nI 0)])), (q1, .inl (G.2.2.2, 5, .inr (.inr (.inr (.inr (va_up (va_up (va_up (fun _ => none) 0 (some (ad3 0))) 1 (some (ad5 0))) 2 (some (ad7 0))))))))] ++ stC G ad3 XZ) ++ stC G ad5 XZ) ++ stC G ad7 XZ) ++ stC G ad9 XZ) := hD
  refine va_astq cx.1 cx.2.1 hK hP hD hS 1 2 26 3 (r := (RX4, TX4, 10)) rfl rfl rfl rfl (i := nI 3) (vp_in_nI (by decide) (by decide)) dX0_init_41 (fun H locs hP hD hS => ?_)
  have hP : va_P G.1 vwCl (((([(b, .inr (0, [.ref q1, .int (nI 0), .int (nI 0)])), (q1, .inl (G.2.2.2, 5, .inr (.inr (.inr (.inr (va_up (va_up (va_up (va_up (fun _ => none) 0 (some (ad3 0))) 1 (some (ad5 0))) 2 (some (ad7 0))) 3 (some (ad9 0))))))))] ++ stC G ad3 XZ) ++ stC G ad5 XZ) ++ stC G ad7 XZ) ++ stC G ad9 XZ) H := hP
  have hD : va_D A (((([(b, .inr (0, [.ref q1, .int (nI 0), .int (nI 0)])), (q1, .inl (G.2.2.2, 5, .inr (.inr (.inr (.inr (va_up (va_up (va_up (va_up (fun _ => none) 0 (some (ad3 0))) 1 (some (ad5 0))) 2 (some (ad7 0))) 3 (some (ad9 0))))))))] ++ stC G ad3 XZ) ++ stC G ad5 XZ) ++ stC G ad7 XZ) ++ stC G ad9 XZ) := hD
  refine lv_iinc (v := nI 4) (lv' := [(1, .int (nI 4)), (0, .ref b)]) cx.1 cx.2.1 dX0_init_42 hl (k := 0) rfl (show nI 3 + Int32.ofInt 1 = nI (3 + 1) from nI_add 3 1) (by decide) rfl (fun ls hl => ?_)
  refine lv_goto (tgt := 24) cx.1 cx.2.1 dX0_init_45 (by decide) ?_
  refine lv_iload_n cx.1 cx.2.1 dX0_init_24 rfl (lv_at hl 0 rfl) ?_
  refine lv_iconst (v := nI 5) cx.1 cx.2.1 dX0_init_25 (by decide) ?_
  refine nv_icmp_ge (tgt := 48) cx dX0_init_26 (by decide) (by decide) (by decide) (fun q => absurd q (by decide)) (fun _ => ?_)
  refine lv_aload_n cx.1 cx.2.1 dX0_init_29 rfl (lv_at hl 1 rfl) ?_
  refine va_get (D := G.1) (ci := 0) (C := RX0) (T := TX0) (N := 3) (v := .ref q1) cx.1 cx.2.1 cx.2.2.2.2 iw_X0_init_X0 cx.2.2.2.1 hK hP 0 rfl rfl 0 (by decide) (cx.2.2.2.2 _ (show Cond.fieldLink RX0 11 "NamePlate$History" "states" "[LNamePlate$State;" ∈ wsX0_init from List.mem_of_getElem? (i := 5) rfl)) (fun _ h9 => h9) rfl dX0_init_30 ?_
  refine lv_iload_n cx.1 cx.2.1 dX0_init_33 rfl (lv_at hl 0 rfl) ?_
  refine va_new (D := G.1) (ci := 3) (fs := [.null, .null, .int 0, .int 0, .int 0, .int 0, .int 0, .int 0, .int 0, .int 0]) (C := RX4) (T := TX4) (N := 10) cx.1 cx.2.1 cx.2.2.2.2 iw_X0_init_X4 tyX4 tyX4_ok cx.2.2.2.1 (cx.2.2.2.2 _ (show Cond.classLink RX0 9 RX4 ∈ wsX0_init from List.mem_of_getElem? (i := 4) rfl)) (cx.2.2.2.2 _ (show Cond.instantiable RX4 10 ∈ wsX0_init from List.mem_of_getElem? (i := 8) rfl)) (cx.2.2.2.2 _ (show Cond.initialized RX4 ∈ wsX0_init from List.mem_of_getElem? (i := 9) rfl)) hK hP hD hS hA rfl (fun j hj => by rcases (show j = 0 ∨ j = 1 ∨ j = 2 ∨ j = 3 ∨ j = 4 ∨ j = 5 ∨ j = 6 ∨ j = 7 ∨ j = 8 ∨ j = 9 by omega) with rfl | rfl | rfl | rfl | rfl | rfl | rfl | rfl | rfl | rfl <;> rfl) (Nat.le_of_ble_eq_true rfl) (Nat.le_of_ble_eq_true rfl) dX0_init_34 (fun q10 H hP hD hS => ?_)
  refine lv_dup cx.1 cx.2.1 dX0_init_37 rfl ?_
  refine MK.callN (ws := (((([(b, .inr (0, [.ref q1, .int (nI 0), .int (nI 0)])), (q1, .inl (G.2.2.2, 5, .inr (.inr (.inr (.inr (va_up (va_up (va_up (va_up (fun _ => none) 0 (some (ad3 0))) 1 (some (ad5 0))) 2 (some (ad7 0))) 3 (some (ad9 0))))))))] ++ stC G ad3 XZ) ++ stC G ad5 XZ) ++ stC G ad7 XZ) ++ stC G ad9 XZ)) (rest := [.ref q10, .int (nI 4), .ref q1]) (host := "NamePlate") cx (c_X4_init l G q10 H.size) ggX0_init_X4_init rfl (hI.2.1.at 3 rfl) (show Cond.initialized RX4 ∈ wsX0_init from List.mem_of_getElem? (i := 9) rfl) (show Cond.instanceMethod yX4_init ∈ wsX0_init from List.mem_of_getElem? (i := 10) rfl) rfl (by decide +kernel) ⟨Nat.le_of_ble_eq_true rfl, Nat.le_of_ble_eq_true rfl⟩ hI hP hD hS hA hl.1 rfl (Nat.le_of_ble_eq_true rfl) dX0_init_38 ⟨Nat.le_of_ble_eq_true rfl, Nat.le_of_ble_eq_true rfl⟩ (fun u H locs hw hP hD hS => ?_)
  obtain ⟨ad11, rfl, rfl⟩ := hw
  have hP : va_P G.1 vwCl ((((([(b, .inr (0, [.ref q1, .int (nI 0), .int (nI 0)])), (q1, .inl (G.2.2.2, 5, .inr (.inr (.inr (.inr (va_up (va_up (va_up (va_up (fun _ => none) 0 (some (ad3 0))) 1 (some (ad5 0))) 2 (some (ad7 0))) 3 (some (ad9 0))))))))] ++ stC G ad3 XZ) ++ stC G ad5 XZ) ++ stC G ad7 XZ) ++ stC G ad9 XZ) ++ stC G ad11 XZ) H := hP
  have hD : va_D A ((((([(b, .inr (0, [.ref q1, .int (nI 0), .int (nI 0)])), (q1, .inl (G.2.2.2, 5, .inr (.inr (.inr (.inr (va_up (va_up (va_up (va_up (fun _ => none) 0 (some (ad3 0))) 1 (some (ad5 0))) 2 (some (ad7 0))) 3 (some (ad9 0))))))))] ++ stC G ad3 XZ) ++ stC G ad5 XZ) ++ stC G ad7 XZ) ++ stC G ad9 XZ) ++ stC G ad11 XZ) := hD
  refine va_astq cx.1 cx.2.1 hK hP hD hS 1 2 34 3 (r := (RX4, TX4, 10)) rfl rfl rfl rfl (i := nI 4) (vp_in_nI (by decide) (by decide)) dX0_init_41 (fun H locs hP hD hS => ?_)
  have hP : va_P G.1 vwCl ((((([(b, .inr (0, [.ref q1, .int (nI 0), .int (nI 0)])), (q1, .inl (G.2.2.2, 5, .inr (.inr (.inr (.inr (va_up (va_up (va_up (va_up (va_up (fun _ => none) 0 (some (ad3 0))) 1 (some (ad5 0))) 2 (some (ad7 0))) 3 (some (ad9 0))) 4 (some (ad11 0))))))))] ++ stC G ad3 XZ) ++ stC G ad5 XZ) ++ stC G ad7 XZ) ++ stC G ad9 XZ) ++ stC G ad11 XZ) H := hP
  have hD : va_D A ((((([(b, .inr (0, [.ref q1, .int (nI 0), .int (nI 0)])), (q1, .inl (G.2.2.2, 5, .inr (.inr (.inr (.inr (va_up (va_up (va_up (va_up (va_up (fun _ => none) 0 (some (ad3 0))) 1 (some (ad5 0))) 2 (some (ad7 0))) 3 (some (ad9 0))) 4 (some (ad11 0))))))))] ++ stC G ad3 XZ) ++ stC G ad5 XZ) ++ stC G ad7 XZ) ++ stC G ad9 XZ) ++ stC G ad11 XZ) := hD
  refine lv_iinc (v := nI 5) (lv' := [(1, .int (nI 5)), (0, .ref b)]) cx.1 cx.2.1 dX0_init_42 hl (k := 0) rfl (show nI 4 + Int32.ofInt 1 = nI (4 + 1) from nI_add 4 1) (by decide) rfl (fun ls hl => ?_)
  refine lv_goto (tgt := 24) cx.1 cx.2.1 dX0_init_45 (by decide) ?_
  refine lv_iload_n cx.1 cx.2.1 dX0_init_24 rfl (lv_at hl 0 rfl) ?_
  refine lv_iconst (v := nI 5) cx.1 cx.2.1 dX0_init_25 (by decide) ?_
  refine nv_icmp_ge (tgt := 48) cx dX0_init_26 (by decide) (by decide) (by decide) (fun _ => ?_) (fun q => absurd q (by decide))
  obtain ⟨AD, hAD⟩ : ∃ AD : Nat → Nat → Nat, AD = (fun i => if i = 0 then ad3 else if i = 1 then ad5 else if i = 2 then ad7 else if i = 3 then ad9 else ad11) := ⟨_, rfl⟩
  have e0 : ad3 = AD 0 := by rw [hAD]; rfl
  have e1 : ad5 = AD 1 := by rw [hAD]; rfl
  have e2 : ad7 = AD 2 := by rw [hAD]; rfl
  have e3 : ad9 = AD 3 := by rw [hAD]; rfl
  have e4 : ad11 = AD 4 := by rw [hAD]; rfl
  clear hAD
  subst e0 e1 e2 e3 e4
  have hP2 := pq_set (k := 1) (g := fun i => some (AD i 0)) hP rfl (fun i hi => by rcases (show i = 0 ∨ i = 1 ∨ i = 2 ∨ i = 3 ∨ i = 4 by omega) with rfl | rfl | rfl | rfl | rfl <;> rfl) rfl
  have hP3 : va_P G.1 vwCl ([(b, .inr (0, [.ref q1, .int (nI 0), .int (nI 0)])), (q1, .inl (G.2.2.2, 5, .inr (.inr (.inr (.inr (fun i => some (AD i 0)))))))] ++ plT G AD (fun _ => XZ) 5) H := hP2
  have hD3 : va_D A ([(b, .inr (0, [.ref q1, .int (nI 0), .int (nI 0)])), (q1, .inl (G.2.2.2, 5, .inr (.inr (.inr (.inr (fun i => some (AD i 0)))))))] ++ plT G AD (fun _ => XZ) 5) := hD.fst rfl
  exact MK.retv cx hr hlocks dX0_init_48 ⟨q1, AD, rfl⟩ hP3 hD3 hS
theorem iw_X6_init_X0 : ∀ w ∈ wsX00, w ∈ wsX6_init := fun _ h => List.mem_cons_of_mem _ (List.mem_append_left _ (List.mem_append_left _ (List.mem_append_left _ (List.mem_append_right _ h))))
theorem iw_X6_init_X1 : ∀ w ∈ wsX10, w ∈ wsX6_init := fun _ h => List.mem_cons_of_mem _ (List.mem_append_left _ (List.mem_append_right _ h))
theorem iw_X6_init_X2 : ∀ w ∈ wsX20, w ∈ wsX6_init := fun _ h => List.mem_cons_of_mem _ (List.mem_append_right _ h)
theorem iw_X6_init_X4 : ∀ w ∈ wsX40, w ∈ wsX6_init := fun _ h => List.mem_cons_of_mem _ (List.mem_append_left _ (List.mem_append_left _ (List.mem_append_left _ (List.mem_append_left _ (List.mem_append_left _ (List.mem_append_right _ h))))))
theorem iw_X6_init_X5 : ∀ w ∈ wsX50, w ∈ wsX6_init := fun _ h => List.mem_cons_of_mem _ (List.mem_append_left _ (List.mem_append_left _ (List.mem_append_right _ h)))
theorem iw_X6_init_X6 : ∀ w ∈ wsX60, w ∈ wsX6_init := fun _ h => List.mem_cons_of_mem _ (List.mem_append_left _ (List.mem_append_left _ (List.mem_append_left _ (List.mem_append_left _ (List.mem_append_right _ h)))))
set_option maxHeartbeats 4000000 in
set_option maxRecDepth 100000 in
theorem c_X6_init (l : Launch) (G : GG) (b sz : Nat) : MK l yX6_init wsX6_init 4 73 60 2905 G [(b, .inr (5, [.null, .null, .null, .null, .int 0]))] b sz (fun u => ∃ (a : Nat → Nat) (AD : Nat → Nat → Nat), a 0 = b ∧ u = plC G a AD YZ) := by
  refine MK.start (cc := cX6_init) (maxL := 1) (by decide) rfl (Nat.le_of_ble_eq_true rfl) rfl ?_
  intro p e s m below meth c ls A cx hr hlocks hin hI hP hD hS hA hl
  have cx : CallFix p m c cX6_init 1 s [Value.ref b].toArray wsX6_init RX6 := cx
  have hl : lv_has ls 1 [(0, .ref b)] := hl
  have hK := hI.1
  refine lv_aload_n cx.1 cx.2.1 dX6_init_0 rfl (lv_at hl 0 rfl) ?_
  refine nv_obj cx (idx := 1) (List.mem_of_getElem? (i := 1) rfl) (List.mem_of_getElem? (i := 2) rfl) (List.mem_of_getElem? (i := 3) rfl) hl.1 rfl dX6_init_1 (Nat.le_of_ble_eq_true rfl) (Nat.le_of_ble_eq_true rfl) ?_
  refine lv_aload_n cx.1 cx.2.1 dX6_init_4 rfl (lv_at hl 0 rfl) ?_
  refine va_new (D := G.1) (ci := 3) (fs := [.null, .null, .int 0, .int 0, .int 0, .int 0, .int 0, .int 0, .int 0, .int 0]) (C := RX4) (T := TX4) (N := 10) cx.1 cx.2.1 cx.2.2.2.2 iw_X6_init_X4 tyX4 tyX4_ok cx.2.2.2.1 (cx.2.2.2.2 _ (show Cond.classLink RX6 7 RX4 ∈ wsX6_init from List.mem_of_getElem? (i := 4) rfl)) (cx.2.2.2.2 _ (show Cond.instantiable RX4 10 ∈ wsX6_init from List.mem_of_getElem? (i := 5) rfl)) (cx.2.2.2.2 _ (show Cond.initialized RX4 ∈ wsX6_init from List.mem_of_getElem? (i := 6) rfl)) hK hP hD hS hA rfl (fun j hj => by rcases (show j = 0 ∨ j = 1 ∨ j = 2 ∨ j = 3 ∨ j = 4 ∨ j = 5 ∨ j = 6 ∨ j = 7 ∨ j = 8 ∨ j = 9 by omega) with rfl | rfl | rfl | rfl | rfl | rfl | rfl | rfl | rfl | rfl <;> rfl) (Nat.le_of_ble_eq_true rfl) (Nat.le_of_ble_eq_true rfl) dX6_init_5 (fun q1 H hP hD hS => ?_)
  refine lv_dup cx.1 cx.2.1 dX6_init_8 rfl ?_
  refine MK.callN (ws := [(b, .inr (5, [.null, .null, .null, .null, .int 0]))]) (rest := [.ref q1, .ref b]) (host := "NamePlate") cx (c_X4_init l G q1 H.size) ggX6_init_X4_init rfl (hI.2.1.at 0 rfl) (show Cond.initialized RX4 ∈ wsX6_init from List.mem_of_getElem? (i := 6) rfl) (show Cond.instanceMethod yX4_init ∈ wsX6_init from List.mem_of_getElem? (i := 18) rfl) rfl (by decide +kernel) ⟨Nat.le_of_ble_eq_true rfl, Nat.le_of_ble_eq_true rfl⟩ hI hP hD hS hA hl.1 rfl (Nat.le_of_ble_eq_true rfl) dX6_init_9 ⟨Nat.le_of_ble_eq_true rfl, Nat.le_of_ble_eq_true rfl⟩ (fun u H locs hw hP hD hS => ?_)
  obtain ⟨ad2, rfl, rfl⟩ := hw
  have hP : va_P G.1 vwCl ([(b, .inr (5, [.null, .null, .null, .null, .int 0]))] ++ stC G ad2 XZ) H := hP
  have hD : va_D A ([(b, .inr (5, [.null, .null, .null, .null, .int 0]))] ++ stC G ad2 XZ) := hD
  refine va_putF (D := G.1) (ci := 5) (v := .ref (ad2 0)) (ty := .object "NamePlate$State") (C := RX6) (T := TX6) (N := 5) cx.1 cx.2.1 cx.2.2.2.2 iw_X6_init_X6 tyX6 tyX6_ok nmX6 cx.2.2.2.1 hK hP hD hS 0 rfl rfl 0 (by decide) (cx.2.2.2.2 _ (show Cond.fieldLink RX6 10 "NamePlate" "now" "LNamePlate$State;" ∈ wsX6_init from List.mem_of_getElem? (i := 7) rfl)) (fun _ h9 => h9) rfl hin rfl (by decide +kernel) rfl rfl (Nat.le_of_ble_eq_true rfl) dX6_init_12 (fun H locs hP hD hS => ?_)
  have hP : va_P G.1 vwCl ([(b, .inr (5, [.ref (ad2 0), .null, .null, .null, .int 0]))] ++ stC G ad2 XZ) H := hP
  have hD : va_D A ([(b, .inr (5, [.ref (ad2 0), .null, .null, .null, .int 0]))] ++ stC G ad2 XZ) := hD
  refine lv_aload_n cx.1 cx.2.1 dX6_init_15 rfl (lv_at hl 0 rfl) ?_
  refine va_new (D := G.1) (ci := 3) (fs := [.null, .null, .int 0, .int 0, .int 0, .int 0, .int 0, .int 0, .int 0, .int 0]) (C := RX4) (T := TX4) (N := 10) cx.1 cx.2.1 cx.2.2.2.2 iw_X6_init_X4 tyX4 tyX4_ok cx.2.2.2.1 (cx.2.2.2.2 _ (show Cond.classLink RX6 7 RX4 ∈ wsX6_init from List.mem_of_getElem? (i := 4) rfl)) (cx.2.2.2.2 _ (show Cond.instantiable RX4 10 ∈ wsX6_init from List.mem_of_getElem? (i := 5) rfl)) (cx.2.2.2.2 _ (show Cond.initialized RX4 ∈ wsX6_init from List.mem_of_getElem? (i := 6) rfl)) hK hP hD hS hA rfl (fun j hj => by rcases (show j = 0 ∨ j = 1 ∨ j = 2 ∨ j = 3 ∨ j = 4 ∨ j = 5 ∨ j = 6 ∨ j = 7 ∨ j = 8 ∨ j = 9 by omega) with rfl | rfl | rfl | rfl | rfl | rfl | rfl | rfl | rfl | rfl <;> rfl) (Nat.le_of_ble_eq_true rfl) (Nat.le_of_ble_eq_true rfl) dX6_init_16 (fun q3 H hP hD hS => ?_)
  refine lv_dup cx.1 cx.2.1 dX6_init_19 rfl ?_
  refine MK.callN (ws := ([(b, .inr (5, [.ref (ad2 0), .null, .null, .null, .int 0]))] ++ stC G ad2 XZ)) (rest := [.ref q3, .ref b]) (host := "NamePlate") cx (c_X4_init l G q3 H.size) ggX6_init_X4_init rfl (hI.2.1.at 0 rfl) (show Cond.initialized RX4 ∈ wsX6_init from List.mem_of_getElem? (i := 6) rfl) (show Cond.instanceMethod yX4_init ∈ wsX6_init from List.mem_of_getElem? (i := 18) rfl) rfl (by decide +kernel) ⟨Nat.le_of_ble_eq_true rfl, Nat.le_of_ble_eq_true rfl⟩ hI hP hD hS hA hl.1 rfl (Nat.le_of_ble_eq_true rfl) dX6_init_20 ⟨Nat.le_of_ble_eq_true rfl, Nat.le_of_ble_eq_true rfl⟩ (fun u H locs hw hP hD hS => ?_)
  obtain ⟨ad4, rfl, rfl⟩ := hw
  have hP : va_P G.1 vwCl (([(b, .inr (5, [.ref (ad2 0), .null, .null, .null, .int 0]))] ++ stC G ad2 XZ) ++ stC G ad4 XZ) H := hP
  have hD : va_D A (([(b, .inr (5, [.ref (ad2 0), .null, .null, .null, .int 0]))] ++ stC G ad2 XZ) ++ stC G ad4 XZ) := hD
  refine va_putF (D := G.1) (ci := 5) (v := .ref (ad4 0)) (ty := .object "NamePlate$State") (C := RX6) (T := TX6) (N := 5) cx.1 cx.2.1 cx.2.2.2.2 iw_X6_init_X6 tyX6 tyX6_ok nmX6 cx.2.2.2.1 hK hP hD hS 0 rfl rfl 1 (by decide) (cx.2.2.2.2 _ (show Cond.fieldLink RX6 16 "NamePlate" "snapshot" "LNamePlate$State;" ∈ wsX6_init from List.mem_of_getElem? (i := 8) rfl)) (fun _ h9 => h9) rfl hin rfl (by decide +kernel) rfl rfl (Nat.le_of_ble_eq_true rfl) dX6_init_23 (fun H locs hP hD hS => ?_)
  have hP : va_P G.1 vwCl (([(b, .inr (5, [.ref (ad2 0), .ref (ad4 0), .null, .null, .int 0]))] ++ stC G ad2 XZ) ++ stC G ad4 XZ) H := hP
  have hD : va_D A (([(b, .inr (5, [.ref (ad2 0), .ref (ad4 0), .null, .null, .int 0]))] ++ stC G ad2 XZ) ++ stC G ad4 XZ) := hD
  refine lv_aload_n cx.1 cx.2.1 dX6_init_26 rfl (lv_at hl 0 rfl) ?_
  refine va_new (D := G.1) (ci := 0) (fs := [.null, .int 0, .int 0]) (C := RX0) (T := TX0) (N := 3) cx.1 cx.2.1 cx.2.2.2.2 iw_X6_init_X0 tyX0 tyX0_ok cx.2.2.2.1 (cx.2.2.2.2 _ (show Cond.classLink RX6 19 RX0 ∈ wsX6_init from List.mem_of_getElem? (i := 9) rfl)) (cx.2.2.2.2 _ (show Cond.instantiable RX0 3 ∈ wsX6_init from List.mem_of_getElem? (i := 10) rfl)) (cx.2.2.2.2 _ (show Cond.initialized RX0 ∈ wsX6_init from List.mem_of_getElem? (i := 11) rfl)) hK hP hD hS hA rfl (fun j hj => by rcases (show j = 0 ∨ j = 1 ∨ j = 2 by omega) with rfl | rfl | rfl <;> rfl) (Nat.le_of_ble_eq_true rfl) (Nat.le_of_ble_eq_true rfl) dX6_init_27 (fun q5 H hP hD hS => ?_)
  refine lv_dup cx.1 cx.2.1 dX6_init_30 rfl ?_
  refine MK.callI (ws := (([(b, .inr (5, [.ref (ad2 0), .ref (ad4 0), .null, .null, .int 0]))] ++ stC G ad2 XZ) ++ stC G ad4 XZ)) (rest := [.ref q5, .ref b]) cx (c_X0_init l G q5 H.size) ggX6_init_X0_init rfl (show Cond.methodLink RX6 21 yX0_init ∈ wsX6_init from List.mem_of_getElem? (i := 52) rfl) (show Cond.initialized RX0 ∈ wsX6_init from List.mem_of_getElem? (i := 11) rfl) (show Cond.instanceMethod yX0_init ∈ wsX6_init from List.mem_of_getElem? (i := 53) rfl) rfl (by decide +kernel) ⟨Nat.le_of_ble_eq_true rfl, Nat.le_of_ble_eq_true rfl⟩ hI hP hD hS hA hl.1 rfl (Nat.le_of_ble_eq_true rfl) dX6_init_31 ⟨Nat.le_of_ble_eq_true rfl, Nat.le_of_ble_eq_true rfl⟩ (fun u H locs hw hP hD hS => ?_)
  obtain ⟨qs6, AD, rfl⟩ := hw
  have hP : va_P G.1 vwCl ((([(b, .inr (5, [.ref (ad2 0), .ref (ad4 0), .null, .null, .int 0]))] ++ stC G ad2 XZ) ++ stC G ad4 XZ) ++ ([(q5, .inr (0, [.ref qs6, .int (nI 0), .int (nI 0)])), (qs6, .inl (G.2.2.2, 5, .inr (.inr (.inr (.inr (fun i => some (AD i 0)))))))] ++ plT G AD (fun _ => XZ) 5)) H := hP
  have hD : va_D A ((([(b, .inr (5, [.ref (ad2 0), .ref (ad4 0), .null, .null, .int 0]))] ++ stC G ad2 XZ) ++ stC G ad4 XZ) ++ ([(q5, .inr (0, [.ref qs6, .int (nI 0), .int (nI 0)])), (qs6, .inl (G.2.2.2, 5, .inr (.inr (.inr (.inr (fun i => some (AD i 0)))))))] ++ plT G AD (fun _ => XZ) 5)) := hD
  refine va_putF (D := G.1) (ci := 5) (v := .ref q5) (ty := .object "NamePlate$History") (C := RX6) (T := TX6) (N := 5) cx.1 cx.2.1 cx.2.2.2.2 iw_X6_init_X6 tyX6 tyX6_ok nmX6 cx.2.2.2.1 hK hP hD hS 0 rfl rfl 2 (by decide) (cx.2.2.2.2 _ (show Cond.fieldLink RX6 22 "NamePlate" "history" "LNamePlate$History;" ∈ wsX6_init from List.mem_of_getElem? (i := 12) rfl)) (fun _ h9 => h9) rfl hin rfl (by decide +kernel) rfl rfl (Nat.le_of_ble_eq_true rfl) dX6_init_34 (fun H locs hP hD hS => ?_)
  have hP : va_P G.1 vwCl ((([(b, .inr (5, [.ref (ad2 0), .ref (ad4 0), .ref q5, .null, .int 0]))] ++ stC G ad2 XZ) ++ stC G ad4 XZ) ++ ([(q5, .inr (0, [.ref qs6, .int (nI 0), .int (nI 0)])), (qs6, .inl (G.2.2.2, 5, .inr (.inr (.inr (.inr (fun i => some (AD i 0)))))))] ++ plT G AD (fun _ => XZ) 5)) H := hP
  have hD : va_D A ((([(b, .inr (5, [.ref (ad2 0), .ref (ad4 0), .ref q5, .null, .int 0]))] ++ stC G ad2 XZ) ++ stC G ad4 XZ) ++ ([(q5, .inr (0, [.ref qs6, .int (nI 0), .int (nI 0)])), (qs6, .inl (G.2.2.2, 5, .inr (.inr (.inr (.inr (fun i => some (AD i 0)))))))] ++ plT G AD (fun _ => XZ) 5)) := hD
  refine lv_aload_n cx.1 cx.2.1 dX6_init_37 rfl (lv_at hl 0 rfl) ?_
  refine va_new (D := G.1) (ci := 4) (fs := [.null, .int 0]) (C := RX5) (T := TX5) (N := 2) cx.1 cx.2.1 cx.2.2.2.2 iw_X6_init_X5 tyX5 tyX5_ok cx.2.2.2.1 (cx.2.2.2.2 _ (show Cond.classLink RX6 26 RX5 ∈ wsX6_init from List.mem_of_getElem? (i := 13) rfl)) (cx.2.2.2.2 _ (show Cond.instantiable RX5 2 ∈ wsX6_init from List.mem_of_getElem? (i := 14) rfl)) (cx.2.2.2.2 _ (show Cond.initialized RX5 ∈ wsX6_init from List.mem_of_getElem? (i := 15) rfl)) hK hP hD hS hA rfl (fun j hj => by rcases (show j = 0 ∨ j = 1 by omega) with rfl | rfl <;> rfl) (Nat.le_of_ble_eq_true rfl) (Nat.le_of_ble_eq_true rfl) dX6_init_38 (fun q7 H hP hD hS => ?_)
  refine lv_dup cx.1 cx.2.1 dX6_init_41 rfl ?_
  refine MK.callN (ws := ((([(b, .inr (5, [.ref (ad2 0), .ref (ad4 0), .ref q5, .null, .int 0]))] ++ stC G ad2 XZ) ++ stC G ad4 XZ) ++ ([(q5, .inr (0, [.ref qs6, .int (nI 0), .int (nI 0)])), (qs6, .inl (G.2.2.2, 5, .inr (.inr (.inr (.inr (fun i => some (AD i 0)))))))] ++ plT G AD (fun _ => XZ) 5))) (rest := [.ref q7, .ref b]) (host := "NamePlate") cx (c_X5_init l G q7 H.size) ggX6_init_X5_init rfl (hI.2.1.at 4 rfl) (show Cond.initialized RX5 ∈ wsX6_init from List.mem_of_getElem? (i := 15) rfl) (show Cond.instanceMethod yX5_init ∈ wsX6_init from List.mem_of_getElem? (i := 60) rfl) rfl (by decide +kernel) ⟨Nat.le_of_ble_eq_true rfl, Nat.le_of_ble_eq_true rfl⟩ hI hP hD hS hA hl.1 rfl (Nat.le_of_ble_eq_true rfl) dX6_init_42 ⟨Nat.le_of_ble_eq_true rfl, Nat.le_of_ble_eq_true rfl⟩ (fun u H locs hw hP hD hS => ?_)
  obtain ⟨q8, rfl⟩ := hw
  have hP : va_P G.1 vwCl (((([(b, .inr (5, [.ref (ad2 0), .ref (ad4 0), .ref q5, .null, .int 0]))] ++ stC G ad2 XZ) ++ stC G ad4 XZ) ++ ([(q5, .inr (0, [.ref qs6, .int (nI 0), .int (nI 0)])), (qs6, .inl (G.2.2.2, 5, .inr (.inr (.inr (.inr (fun i => some (AD i 0)))))))] ++ plT G AD (fun _ => XZ) 5)) ++ [(q7, .inr (4, [.ref q8, .int (nI 0)])), (q8, .inl (G.2.1, 60, .inl (fun _ => 0)))]) H := hP
  have hD : va_D A (((([(b, .inr (5, [.ref (ad2 0), .ref (ad4 0), .ref q5, .null, .int 0]))] ++ stC G ad2 XZ) ++ stC G ad4 XZ) ++ ([(q5, .inr (0, [.ref qs6, .int (nI 0), .int (nI 0)])), (qs6, .inl (G.2.2.2, 5, .inr (.inr (.inr (.inr (fun i => some (AD i 0)))))))] ++ plT G AD (fun _ => XZ) 5)) ++ [(q7, .inr (4, [.ref q8, .int (nI 0)])), (q8, .inl (G.2.1, 60, .inl (fun _ => 0)))]) := hD
  refine va_putF (D := G.1) (ci := 5) (v := .ref q7) (ty := .object "NamePlate$Text") (C := RX6) (T := TX6) (N := 5) cx.1 cx.2.1 cx.2.2.2.2 iw_X6_init_X6 tyX6 tyX6_ok nmX6 cx.2.2.2.1 hK hP hD hS 0 rfl rfl 3 (by decide) (cx.2.2.2.2 _ (show Cond.fieldLink RX6 29 "NamePlate" "text" "LNamePlate$Text;" ∈ wsX6_init from List.mem_of_getElem? (i := 16) rfl)) (fun _ h9 => h9) rfl hin rfl (by decide +kernel) rfl rfl (Nat.le_of_ble_eq_true rfl) dX6_init_45 (fun H locs hP hD hS => ?_)
  have hP : va_P G.1 vwCl (((([(b, .inr (5, [.ref (ad2 0), .ref (ad4 0), .ref q5, .ref q7, .int 0]))] ++ stC G ad2 XZ) ++ stC G ad4 XZ) ++ ([(q5, .inr (0, [.ref qs6, .int (nI 0), .int (nI 0)])), (qs6, .inl (G.2.2.2, 5, .inr (.inr (.inr (.inr (fun i => some (AD i 0)))))))] ++ plT G AD (fun _ => XZ) 5)) ++ [(q7, .inr (4, [.ref q8, .int (nI 0)])), (q8, .inl (G.2.1, 60, .inl (fun _ => 0)))]) H := hP
  have hD : va_D A (((([(b, .inr (5, [.ref (ad2 0), .ref (ad4 0), .ref q5, .ref q7, .int 0]))] ++ stC G ad2 XZ) ++ stC G ad4 XZ) ++ ([(q5, .inr (0, [.ref qs6, .int (nI 0), .int (nI 0)])), (qs6, .inl (G.2.2.2, 5, .inr (.inr (.inr (.inr (fun i => some (AD i 0)))))))] ++ plT G AD (fun _ => XZ) 5)) ++ [(q7, .inr (4, [.ref q8, .int (nI 0)])), (q8, .inl (G.2.1, 60, .inl (fun _ => 0)))]) := hD
  refine lv_aload_n cx.1 cx.2.1 dX6_init_48 rfl (lv_at hl 0 rfl) ?_
  refine lv_iconst (v := nI 0) cx.1 cx.2.1 dX6_init_49 (by decide) ?_
  refine va_put (D := G.1) (ci := 5) (v := .int (nI 0)) (ty := .boolean) (C := RX6) (T := TX6) (N := 5) cx.1 cx.2.1 cx.2.2.2.2 iw_X6_init_X6 tyX6 tyX6_ok nmX6 cx.2.2.2.1 hK hP hD hS 0 rfl rfl 4 (by decide) (cx.2.2.2.2 _ (show Cond.fieldLink RX6 33 "NamePlate" "hasSnapshot" "Z" ∈ wsX6_init from List.mem_of_getElem? (i := 17) rfl)) (fun _ h9 => h9) rfl (by decide +kernel) rfl rfl (Nat.le_of_ble_eq_true rfl) dX6_init_50 (fun H locs hP hD hS => ?_)
  have hP : va_P G.1 vwCl (((([(b, .inr (5, [.ref (ad2 0), .ref (ad4 0), .ref q5, .ref q7, .int (nI 0)]))] ++ stC G ad2 XZ) ++ stC G ad4 XZ) ++ ([(q5, .inr (0, [.ref qs6, .int (nI 0), .int (nI 0)])), (qs6, .inl (G.2.2.2, 5, .inr (.inr (.inr (.inr (fun i => some (AD i 0)))))))] ++ plT G AD (fun _ => XZ) 5)) ++ [(q7, .inr (4, [.ref q8, .int (nI 0)])), (q8, .inl (G.2.1, 60, .inl (fun _ => 0)))]) H := hP
  have hD : va_D A (((([(b, .inr (5, [.ref (ad2 0), .ref (ad4 0), .ref q5, .ref q7, .int (nI 0)]))] ++ stC G ad2 XZ) ++ stC G ad4 XZ) ++ ([(q5, .inr (0, [.ref qs6, .int (nI 0), .int (nI 0)])), (qs6, .inl (G.2.2.2, 5, .inr (.inr (.inr (.inr (fun i => some (AD i 0)))))))] ++ plT G AD (fun _ => XZ) 5)) ++ [(q7, .inr (4, [.ref q8, .int (nI 0)])), (q8, .inl (G.2.1, 60, .inl (fun _ => 0)))]) := hD
  have hP2 := pq_set (k := 18) (g := fun i => some ((fun i => if i = 5 then ad2 else if i = 6 then ad4 else AD i) i 0)) hP rfl (fun i hi => by rcases (show i = 0 ∨ i = 1 ∨ i = 2 ∨ i = 3 ∨ i = 4 by omega) with rfl | rfl | rfl | rfl | rfl <;> rfl) rfl
  have hP3 := hP2.sub (ws' := plC G (fun i => if i = 0 then b else if i = 1 then q5 else if i = 2 then qs6 else if i = 3 then q7 else q8) (fun i => if i = 5 then ad2 else if i = 6 then ad4 else AD i) YZ) [0, 17, 18, 59, 60, 19, 20, 21, 22, 23, 24, 25, 26, 27, 28, 29, 30, 31, 32, 33, 34, 35, 36, 37, 38, 39, 40, 41, 42, 43, 44, 45, 46, 47, 48, 49, 50, 51, 52, 53, 54, 55, 56, 57, 58, 1, 2, 3, 4, 5, 6, 7, 8, 9, 10, 11, 12, 13, 14, 15, 16] rfl
  have hD2 : va_D A (((((([(b, .inr (5, [.ref (ad2 0), .ref (ad4 0), .ref q5, .ref q7, .int (nI 0)]))] ++ stC G ad2 XZ) ++ stC G ad4 XZ) ++ ([(q5, .inr (0, [.ref qs6, .int (nI 0), .int (nI 0)])), (qs6, .inl (G.2.2.2, 5, .inr (.inr (.inr (.inr (fun i => some (AD i 0)))))))] ++ plT G AD (fun _ => XZ) 5)) ++ [(q7, .inr (4, [.ref q8, .int (nI 0)])), (q8, .inl (G.2.1, 60, .inl (fun _ => 0)))]) : va_W).set 18 (qs6, .inl (G.2.2.2, 5, .inr (.inr (.inr (.inr (fun i => some ((fun i => if i = 5 then ad2 else if i = 6 then ad4 else AD i) i 0)))))))) := hD.fst rfl
  have hD3 := hD2.sub (ws' := plC G (fun i => if i = 0 then b else if i = 1 then q5 else if i = 2 then qs6 else if i = 3 then q7 else q8) (fun i => if i = 5 then ad2 else if i = 6 then ad4 else AD i) YZ) [0, 17, 18, 59, 60, 19, 20, 21, 22, 23, 24, 25, 26, 27, 28, 29, 30, 31, 32, 33, 34, 35, 36, 37, 38, 39, 40, 41, 42, 43, 44, 45, 46, 47, 48, 49, 50, 51, 52, 53, 54, 55, 56, 57, 58, 1, 2, 3, 4, 5, 6, 7, 8, 9, 10, 11, 12, 13, 14, 15, 16] (by decide) rfl
  exact MK.retv cx hr hlocks dX6_init_53 ⟨_, _, rfl, rfl⟩ hP3 hD3 hS
