/-! ===== the law's own: the script's cells, the fresh plate, what undo brings back ===== -/
def CE (l : Launch) (y : MethodName) (wsy : List Cond) (fr lo : Nat) (b L : Nat) (xs : Nat → Int32) (k : Int32) : Prop := Met l y wsy ({ frames := fr, cells := 0, slots := 0, locals := lo } : Room) (va_Pc [.ref b, .int k] (fun U => va_X b L xs U U.heap)) (vp_Si (fun _ => True)) 0 0 (fun _ => False)
theorem fw_L_cell_k7 : (Cond.constant RL 7 (2720009)) ∈ wsL_cell := List.mem_of_getElem? (i := 1) rfl
theorem c_L_cell (l : Launch) (b L : Nat) (xs : Nat → Int32) (hL : L ≤ 260) (j : Nat) (hj : j < 1000) : CE l yL_cell wsL_cell 0 0 b L xs (nI j) := by
  refine Met.ofW (cc := cL_cell) (maxL := 2) (ret := (some .int)) (by decide) rfl ?_
  intro p e s m args below meth c s₁ B hml hv
  obtain ⟨rfl, hX⟩ := hv
  have hown : s.vm.findClass yL_cell.cls = some m.cls := findClass_of_methodNamed B.named
  rw [lg_entry_eq]
  have cx : CallFix p m c cL_cell 2 s [Value.ref b, Value.int (nI j)].toArray wsL_cell RL := ⟨B.exec, B.bytes, hml, hown, atoms_spec (ws := wsL_cell) B.pre⟩
  have hr := B.returns
  have hlocks := B.notSynchronized
  have hl := lv_entry ([.ref b, .int (nI j)]) (n := 2) (Nat.le_of_ble_eq_true rfl)
  generalize (lg_sl ([.ref b, .int (nI j)]) ++ List.replicate (2 - (lg_sl ([.ref b, .int (nI j)])).length) Slot.unset).toArray = ls at hl ⊢
  have hl : lv_has ls 2 [(0, .ref b), (1, .int (nI j))] := hl
  have hbl : b < s.heap.size := by
    obtain ⟨scr, h1, -⟩ := hX
    exact (Array.getElem?_eq_some_iff.mp h1).1
  have hS : va_S (fun q : Nat => s.heap.size ≤ q) s.heap s.heap [] := va_S.rf
  have fin : ∀ (r : Int32) (ls : Array Slot), W p l e ({ frames := 0, cells := 0, slots := 0, locals := 0 } : Room) s m [Value.ref b, Value.int (nI j)].toArray below meth c s.heap [] 0 0 (MQ below (vp_Si (fun _ => True)) [Value.ref b, Value.int (nI j)].toArray s 0 0 (fun _ => False)) (F0 m 20 ls [.int r]) := fun r ls =>
    W.iret cx.1 cx.2.1 hr (fun t ht _ => ⟨r, rfl, trivial, ht⟩) (fun q h => by cases h) dL_cell_20 hlocks
  refine lv_iload_n cx.1 cx.2.1 dL_cell_0 rfl (lv_at hl 1 rfl) ?_
  refine lv_aload_n cx.1 cx.2.1 dL_cell_1 rfl (lv_at hl 0 rfl) ?_
  refine va_slen cx.1 cx.2.1 hX hbl (Nat.not_le.mpr hbl) hS dL_cell_2 ?_
  refine nv_icmp_ge (a := j) (b := L) (tgt := 12) cx dL_cell_3 (by decide) (by omega) (by omega) (fun q => ?_) (fun q => ?_)
  · refine lv_ldc (v := (2720009)) cx.1 cx.2.1 cx.2.2.2.1 (cx.2.2.2.2 _ fw_L_cell_k7) dL_cell_12 ?_
    refine lv_iload_n cx.1 cx.2.1 dL_cell_14 rfl (lv_at hl 1 rfl) ?_
    refine lv_imul (x := 2720009) (y := nI j) cx.1 cx.2.1 dL_cell_15 ?_
    refine lv_sipush (v := nI 1373) cx.1 cx.2.1 dL_cell_16 (by decide) ?_
    refine lv_iadd (x := 2720009 * nI j) (y := nI 1373) cx.1 cx.2.1 dL_cell_19 ?_
    exact fin _ ls
  · refine lv_aload_n cx.1 cx.2.1 dL_cell_6 rfl (lv_at hl 0 rfl) ?_
    refine lv_iload_n cx.1 cx.2.1 dL_cell_7 rfl (lv_at hl 1 rfl) ?_
    refine va_sld cx.1 cx.2.1 hX hbl (Nat.not_le.mpr hbl) hS (vp_in_nI q (by omega)) dL_cell_8 ?_
    refine lv_goto (tgt := 20) cx.1 cx.2.1 dL_cell_9 (by decide) ?_
    exact fin _ ls
section CEC
variable {p : Program} {l : Launch} {e : Env} {R : Room} {s : State} {m : MethodId} {args : Array Value} {below : List Frame} {meth : Method} {c : Code} {H : Heap} {locs : List Loc} {cells slots : Nat} {Q : State → Prop}
variable {cc : ByteArray} {pc nL : Nat} {ls : Array Slot} {rest st0 : List Value} {Ts wsy : List Cond} {own : String}
theorem CE.callS {y : MethodName} {bytes : ByteArray} {maxL index fr lo : Nat} {rt : Option FieldType} {ws' : List Cond} {b L : Nat} {xs : Nat → Int32} {k : Int32} (cx : CallFix p m c cc nL s args Ts own) (hM : CE l y wsy fr lo b L xs k) (hG : GoodIn Ts (va_wsS own index y wsy)) (hw : wsy = Cond.code y bytes maxL rt :: ws')
    (hd : y.cls ≠ "java/lang/invoke/MethodHandle" ∧ y.cls ≠ "java/lang/invoke/VarHandle" ∧ (parseMethodDescriptor y.desc).map (fun d => d.parameters.length) = some 2) (hR : fr + 1 ≤ R.frames ∧ 8 + (maxL + 11) + lo ≤ R.locals)
    (hX : va_X b L xs s s.heap) (hbl : b < s.heap.size) (hS : va_S (fun q : Nat => s.heap.size ≤ q) s.heap H locs) (hsize : ls.size = nL) (hst : st0 = [Value.ref b, Value.int k].reverse ++ rest) (hroom : (rest.map fun v => v.category).sum ≤ 8) (hdg : decode cc pc = .ok (.invokestatic index, 3)) (hcs : cells ≤ R.cells ∧ slots ≤ R.slots)
    (kk : ∀ r : Int32, W p l e R s m args below meth c H locs cells slots Q (F0 m (pc + 3) ls (.int r :: rest))) : W p l e R s m args below meth c H locs cells slots Q (F0 m pc ls st0) :=
  vp_callSi (W.runS cx hM (va_cwS 2 cx.2.2.2.2 hG hw rfl rfl hd hR) ⟨fun a U g mk q => ⟨q.1, va_X.moved (u := U) (U := U.calling g mk a) (Vm.Alike.refl U.vm) q.2⟩, fun U hU hW => ⟨rfl, by show va_X b L xs U U.heap; rw [hU]; exact (va_X.kept (hX.moved hW.alike) (hS.2.1 b hbl (Nat.not_le.mpr hbl)))⟩⟩ rfl rfl hsize hst (lv_room hroom) hdg hcs) (fun r _ => kk r)
end CEC
theorem kept2 {D : va_G} {cl : List vw_C} {ws ws0 : va_W} {H H1 : Heap} (hP : va_P D cl ws H) (hd : ∀ q, wA ws q → ¬ wA ws0 q) (hk : ∀ q : Nat, q < H.size → ¬ wA ws0 q → H1[q]? = H[q]?) : va_P D cl ws H1 := hP.kept (fun k q hq => hk q.1 ((hP k q hq).lt) (hd _ (wA_of hq)))
theorem wA_in {A : Nat → Prop} {ws : va_W} (hD : va_D A ws) {q : Nat} (hq : wA ws q) : A q := by
  obtain ⟨x, hx, rfl⟩ := List.mem_map.mp hq
  obtain ⟨k, hk⟩ := List.mem_iff_getElem?.mp hx
  exact hD.2 k x hk
/-! the fresh plate -/
theorem z_undo : yUndo YZ = (-1005, YZ) := if_pos yqZ
theorem z_rest : yRest YZ = (-1005, YZ) := if_pos rfl
theorem z_read : yReadN YZ = (-100, YZ) := by
  have e : xFault YZ = 0 := by
    unfold xFault
    rw [if_neg (by unfold xFl; rw [ytZ]; exact Nat.not_lt_zero _), ytZ, if_neg (by show ¬ (false = true); decide)]
    rfl
  rw [yReadN_f (by rw [e]; decide), e]
  rfl
theorem z_size : xSize XZ = 40 := by
  unfold xSize
  rw [if_neg (by decide)]
  unfold xGr
  rw [xnZ, if_pos (show nI 0 = 0 from rfl)]
theorem z_long : yLong XZ = -1005 := by
  unfold yLong
  rw [xnZ, if_neg (Nat.not_lt_zero _)]
theorem z_engA : yEngA YZ = (-1005, YZ) := by
  refine if_pos ?_
  show xEs XZ (xSize XZ) (xn XZ) = 0
  rw [xnZ]
  rfl
theorem z_eng : yEng YZ 0 = (-1001, YZ) := by
  refine if_pos ?_
  show xTk (xn XZ) 0 = false
  rw [xnZ]
  decide
theorem z_at : yAt XZ 0 0 = -1005 := by
  unfold yAt
  rw [if_neg (by decide), z_size, if_neg (by decide), xnZ, if_neg (Nat.not_lt_zero _)]
/-! undo -/
theorem cmp_0 (x y : Int64) : lg_cmp x y = 0 ↔ x = y := by
  unfold lg_cmp
  constructor
  · intro h
    split at h
    · exact absurd h (by decide)
    · split at h
      · assumption
      · exact absurd h (by decide)
  · intro h
    subst h
    rw [if_neg (by rw [gt_iff_lt, Int64.lt_iff_toInt_lt]; omega), if_pos rfl]
def RC (Y Y1 : Nat → XS) : Prop := yq Y1 = (if yq Y < 5 then yq Y + 1 else 5) ∧ Y1 ((yo Y1 + (yq Y1 - 1)) % 5) = Y 5
theorem rc_1 {Y Y1 : Nat → XS} (h : Sp Y Y1) (q : ¬ yq Y1 = yq Y) : RC Y Y1 := by
  rcases h.2 with ⟨-, e⟩ | e
  · exact absurd e q
  · exact e
theorem rc_2 {Y Y1 : Nat → XS} (h : Sp Y Y1) (q : ¬ lg_cmp (dig Y1) (dig Y) = 0) : RC Y Y1 := by
  rcases h.2 with ⟨e, -⟩ | e
  · exact absurd ((cmp_0 _ _).mpr (dig_cg e)) q
  · exact e
def lstN (q : Nat) : Nat := if q = 5 then 4 else q
theorem lst_5 {q : Nat} (h : q = 5) : nI 4 = nI (lstN q) := by rw [lstN, if_pos h]
theorem lst_n {q : Nat} (h : ¬ q = 5) : nI q = nI (lstN q) := by rw [lstN, if_neg h]
theorem u_rec {Y Y1 : Nat → XS} (h0 : Gd Y) (h : Gd Y1) (hr : RC Y Y1) : ∃ Y3, yUndo Y1 = (nI (lstN (yq Y)), Y3) ∧ Gd Y3 ∧ Y3 5 = Y 5 := by
  obtain ⟨e1, e2⟩ := hr
  have q5 := h0.h.q5
  have hq : 0 < yq Y1 := by
    rw [e1]
    split <;> omega
  obtain ⟨g1, g2, g3⟩ := g_undo h hq
  refine ⟨yTl Y1, ?_, g1, g2.trans e2⟩
  have e : yUndo Y1 = (nI (yq Y1 - 1), yTl Y1) := if_neg (by omega)
  rw [e, e1]
  congr 2
  unfold lstN
  by_cases z : yq Y < 5
  · rw [if_pos z, if_neg (by omega)]
    omega
  · rw [if_neg z, if_pos (by omega)]
theorem dg_e {Y Y3 : Nat → XS} (h : Y3 5 = Y 5) : lg_cmp (dig Y3) (dig Y) = 0 := (cmp_0 _ _).mpr (dig_cg h)
theorem lstN_le {q : Nat} (h : q ≤ 5) : lstN q ≤ 5 := by
  unfold lstN
  split <;> omega
