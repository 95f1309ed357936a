/-! ===== derived rows: numbers that are naturals, booleans, methods that only read, methods that write ===== -/
abbrev GG : Type := va_G × ClassId × ClassId × ClassId
def T3 (G : GG) : List (ClassId × FieldType) := [(G.2.1, .char), (G.2.2.1, .int), (G.2.2.2, .object "NamePlate$State")]
/-- the words of the fields that nest mates read: they don't ride among a method's words -/
def nw : List Cond := [.fieldLinkNest "NamePlate" (102 : Nat) "NamePlate$State" "names" "LNamePlate$Names;" "NamePlate", .fieldLinkNest "NamePlate" (106 : Nat) "NamePlate$Names" "number" "I" "NamePlate", .fieldLinkNest "NamePlate" (161 : Nat) "NamePlate$History" "number" "I" "NamePlate", .fieldLinkNest "NamePlate" (229 : Nat) "NamePlate$State" "width" "I" "NamePlate", .fieldLinkNest "NamePlate" (231 : Nat) "NamePlate$State" "height" "I" "NamePlate", .fieldLinkNest "NamePlate" (257 : Nat) "NamePlate$State" "cuts" "I" "NamePlate", .fieldLinkNest "NamePlate" (260 : Nat) "NamePlate$State" "lost" "I" "NamePlate", .fieldLinkNest "NamePlate" (263 : Nat) "NamePlate$Pairs" "number" "I" "NamePlate", .fieldLinkNest "NamePlate" (53 : Nat) "NamePlate$State" "margin" "I" "NamePlate", .fieldLinkNest "NamePlate" (57 : Nat) "NamePlate$State" "columns" "I" "NamePlate", .fieldLinkNest "NamePlate" (74 : Nat) "NamePlate$State" "pairs" "LNamePlate$Pairs;" "NamePlate", .fieldLinkNest "NamePlate" (92 : Nat) "NamePlate$Text" "length" "I" "NamePlate", .fieldLinkNest "NamePlate$State" (67 : Nat) "NamePlate$Names" "number" "I" "NamePlate"]
def Nst (U : State) : Prop := ∀ w ∈ nw, va_Nw w U
theorem Nst.at {U : State} (h : Nst U) (i : Nat) {w : Cond} (hi : nw[i]? = some w) : va_Nw w U := h w (List.mem_of_getElem? hi)
theorem Nst.warm {s U : State} (hW : s.WarmedH U.vm) (h : Nst s) : Nst U := (List.forall_mem_cons.mpr ⟨va_Nw.warmF hW (h.at 0 rfl), (List.forall_mem_cons.mpr ⟨va_Nw.warmF hW (h.at 1 rfl), (List.forall_mem_cons.mpr ⟨va_Nw.warmF hW (h.at 2 rfl), (List.forall_mem_cons.mpr ⟨va_Nw.warmF hW (h.at 3 rfl), (List.forall_mem_cons.mpr ⟨va_Nw.warmF hW (h.at 4 rfl), (List.forall_mem_cons.mpr ⟨va_Nw.warmF hW (h.at 5 rfl), (List.forall_mem_cons.mpr ⟨va_Nw.warmF hW (h.at 6 rfl), (List.forall_mem_cons.mpr ⟨va_Nw.warmF hW (h.at 7 rfl), (List.forall_mem_cons.mpr ⟨va_Nw.warmF hW (h.at 8 rfl), (List.forall_mem_cons.mpr ⟨va_Nw.warmF hW (h.at 9 rfl), (List.forall_mem_cons.mpr ⟨va_Nw.warmF hW (h.at 10 rfl), (List.forall_mem_cons.mpr ⟨va_Nw.warmF hW (h.at 11 rfl), (List.forall_mem_cons.mpr ⟨va_Nw.warmF hW (h.at 12 rfl), (fun _ h => absurd h List.not_mem_nil)⟩)⟩)⟩)⟩)⟩)⟩)⟩)⟩)⟩)⟩)⟩)⟩)⟩)
theorem Nst.same {s U : State} (hv : s.vm = U.vm) (h : Nst s) : Nst U := (List.forall_mem_cons.mpr ⟨va_Nw.same rfl hv (h.at 0 rfl), (List.forall_mem_cons.mpr ⟨va_Nw.same rfl hv (h.at 1 rfl), (List.forall_mem_cons.mpr ⟨va_Nw.same rfl hv (h.at 2 rfl), (List.forall_mem_cons.mpr ⟨va_Nw.same rfl hv (h.at 3 rfl), (List.forall_mem_cons.mpr ⟨va_Nw.same rfl hv (h.at 4 rfl), (List.forall_mem_cons.mpr ⟨va_Nw.same rfl hv (h.at 5 rfl), (List.forall_mem_cons.mpr ⟨va_Nw.same rfl hv (h.at 6 rfl), (List.forall_mem_cons.mpr ⟨va_Nw.same rfl hv (h.at 7 rfl), (List.forall_mem_cons.mpr ⟨va_Nw.same rfl hv (h.at 8 rfl), (List.forall_mem_cons.mpr ⟨va_Nw.same rfl hv (h.at 9 rfl), (List.forall_mem_cons.mpr ⟨va_Nw.same rfl hv (h.at 10 rfl), (List.forall_mem_cons.mpr ⟨va_Nw.same rfl hv (h.at 11 rfl), (List.forall_mem_cons.mpr ⟨va_Nw.same rfl hv (h.at 12 rfl), (fun _ h => absurd h List.not_mem_nil)⟩)⟩)⟩)⟩)⟩)⟩)⟩)⟩)⟩)⟩)⟩)⟩)⟩)
def Wd (G : GG) (ws : va_W) (U : State) : Prop := va_P G.1 vwCl ws U.heap ∧ va_K G.1 vwCl (T3 G) U ∧ Nst U
def RO (l : Launch) (y : MethodName) (wsy : List Cond) (fr lo : Nat) (G : GG) (ws : va_W) (av : List Value) (v : Int32) : Prop := Met l y wsy ({ frames := fr, cells := 0, slots := 0, locals := lo } : Room) (va_Pc av (Wd G ws)) (vp_Si (fun r => r = v)) 0 0 (fun _ => False)
def wA (ws : va_W) : Nat → Prop := fun q => q ∈ ws.map Prod.fst
def QW (G : GG) (ws0 : va_W) (v : Option Value) (ws1 : va_W) : Array Value → State → Outcome → State → Prop := fun _ st oc t => (oc = .returned v ∧ va_P G.1 vwCl ws1 t.heap) ∧ va_F (wA ws0) st t
def WR (l : Launch) (y : MethodName) (wsy : List Cond) (fr lo : Nat) (G : GG) (ws0 : va_W) (av : List Value) (v : Option Value) (ws1 : va_W) : Prop := Met l y wsy ({ frames := fr, cells := 0, slots := 0, locals := lo } : Room) (va_Pc av (fun U => Wd G ws0 U ∧ va_D (fun _ => True) ws0)) (QW G ws0 v ws1) 0 0 (wA ws0)
theorem Wd.bl {G : GG} {ws : va_W} {av : List Value} : FrameBlind (va_Pc av (Wd G ws)) := fun a U g mk q => ⟨q.1, q.2.1, va_K.moved (u := U) (U := U.calling g mk a) (Vm.Alike.refl U.vm) q.2.2.1, Nst.same (s := U) (U := U.calling g mk a) rfl q.2.2.2⟩
theorem Wd.bl2 {G : GG} {ws : va_W} {av : List Value} : FrameBlind (va_Pc av (fun U => Wd G ws U ∧ va_D (fun _ => True) ws)) := fun a U g mk q => ⟨q.1, ⟨q.2.1.1, va_K.moved (u := U) (U := U.calling g mk a) (Vm.Alike.refl U.vm) q.2.1.2.1, Nst.same (s := U) (U := U.calling g mk a) rfl q.2.1.2.2⟩, q.2.2⟩
theorem wA_of {ws : va_W} {k : Nat} {q : Nat × va_E} (h : ws[k]? = some q) : wA ws q.1 := List.mem_map.mpr ⟨q, List.mem_of_getElem? h, rfl⟩
theorem wA_D {A : Nat → Prop} {ws : va_W} (h : va_D A ws) : va_D (wA ws) ws := ⟨h.1, fun _ _ hk => wA_of hk⟩
theorem RO.start {l : Launch} {y : MethodName} {wsy : List Cond} {fr lo : Nat} {G : GG} {ws : va_W} {av : List Value} {v : Int32} {cc : ByteArray} {maxL : Nat} {ret : Option FieldType} {ws' : List Cond} (hy : plainName y.cls = true) (hw : wsy = Cond.code y cc maxL ret :: ws') (hlen : (lg_sl av).length ≤ maxL)
    (body : ∀ (p : Program) (e : Env) (s : State) (m : MethodId) (below : List Frame) (meth : Method) (c : Code) (ls : Array Slot), CallFix p m c cc maxL s av.toArray wsy y.cls → meth.sig.returnType = ret → meth.locks = false → va_K G.1 vwCl (T3 G) s → Nst s → va_P G.1 vwCl ws s.heap → lv_has ls maxL (lv_args 0 av) →
      W p l e ({ frames := fr, cells := 0, slots := 0, locals := lo } : Room) s m av.toArray below meth c s.heap [] 0 0 (MQ below (vp_Si (fun r => r = v)) av.toArray s 0 0 (fun _ => False)) (F0 m 0 ls [])) : RO l y wsy fr lo G ws av v := by
  refine Met.ofW hy hw ?_
  intro p e s m args below meth c s₁ B hml hv
  obtain ⟨rfl, hP, hK, hN⟩ := hv
  have hown : s.vm.findClass y.cls = some m.cls := findClass_of_methodNamed B.named
  rw [lg_entry_eq]
  exact body p e s m below meth c _ ⟨B.exec, B.bytes, hml, hown, atoms_spec (ws := wsy) B.pre⟩ B.returns B.notSynchronized hK hN hP (lv_entry av hlen)
theorem WR.start {l : Launch} {y : MethodName} {wsy : List Cond} {fr lo : Nat} {G : GG} {ws0 ws1 : va_W} {av : List Value} {v : Option Value} {cc : ByteArray} {maxL : Nat} {ret : Option FieldType} {ws' : List Cond} (hy : plainName y.cls = true) (hw : wsy = Cond.code y cc maxL ret :: ws') (hlen : (lg_sl av).length ≤ maxL)
    (body : ∀ (p : Program) (e : Env) (s : State) (m : MethodId) (below : List Frame) (meth : Method) (c : Code) (ls : Array Slot), CallFix p m c cc maxL s av.toArray wsy y.cls → meth.sig.returnType = ret → meth.locks = false → va_K G.1 vwCl (T3 G) s → Nst s → va_P G.1 vwCl ws0 s.heap → va_D (wA ws0) ws0 → va_S (wA ws0) s.heap s.heap [] → lv_has ls maxL (lv_args 0 av) →
      W p l e ({ frames := fr, cells := 0, slots := 0, locals := lo } : Room) s m av.toArray below meth c s.heap [] 0 0 (MQ below (QW G ws0 v ws1) av.toArray s 0 0 (wA ws0)) (F0 m 0 ls [])) : WR l y wsy fr lo G ws0 av v ws1 := by
  refine Met.ofW hy hw ?_
  intro p e s m args below meth c s₁ B hml hv
  obtain ⟨rfl, ⟨hP, hK, hN⟩, hD⟩ := hv
  have hown : s.vm.findClass y.cls = some m.cls := findClass_of_methodNamed B.named
  rw [lg_entry_eq]
  exact body p e s m below meth c _ ⟨B.exec, B.bytes, hml, hown, atoms_spec (ws := wsy) B.pre⟩ B.returns B.notSynchronized hK hN hP (wA_D hD) va_S.rf (lv_entry av hlen)
def b2i (b : Bool) : Int32 := if b then 1 else 0
theorem b2i_t : b2i true = 1 := rfl
theorem b2i_f : b2i false = 0 := rfl
theorem b2i_nar (b : Bool) : narrow .boolean (.int (b2i b)) = .int (b2i b) := by cases b <;> rfl
theorem b2i_0 {b : Bool} : b2i b = 0 ↔ b = false := by cases b <;> decide
section NV
variable {p : Program} {l : Launch} {e : Env} {R : Room} {s : State} {m : MethodId} {args : Array Value} {below : List Frame} {meth : Method} {c : Code} {H : Heap} {locs : List Loc} {cells slots : Nat} {Q : State → Prop}
variable {cc : ByteArray} {pc nL : Nat} {ls : Array Slot} {rest st0 : List Value} {Ts wsy : List Cond} {own : String} {G : GG} {A0 : Nat → Prop} {H0 : Heap}
theorem RO.ret {v x : Int32} (cx : CallFix p m c cc nL s args Ts own) (hr : meth.sig.returnType = some .int) (hlocks : meth.locks = false) (hd : decode cc pc = .ok (.ireturn, 1)) (hv : x = v) : W p l e R s m args below meth c s.heap [] 0 0 (MQ below (vp_Si (fun r => r = v)) args s 0 0 (fun _ => False)) (F0 m pc ls [.int x]) :=
  W.iret cx.1 cx.2.1 hr (fun t ht _ => ⟨x, rfl, hv, ht⟩) (fun q h => by cases h) hd hlocks
theorem RO.retz {b : Bool} {v x : Int32} (cx : CallFix p m c cc nL s args Ts own) (hr : meth.sig.returnType = some .boolean) (hlocks : meth.locks = false) (hd : decode cc pc = .ok (.ireturn, 1)) (hv : x = b2i b) (hv2 : b2i b = v) : W p l e R s m args below meth c s.heap [] 0 0 (MQ below (vp_Si (fun r => r = v)) args s 0 0 (fun _ => False)) (F0 m pc ls [.int x]) :=
  W.zret cx.1 cx.2.1 hr (by rw [hv]; exact b2i_nar b) (fun t ht _ => ⟨x, rfl, hv.trans hv2, ht⟩) (fun q h => by cases h) hd hlocks
theorem RO.retc {v x : Int32} (cx : CallFix p m c cc nL s args Ts own) (hr : meth.sig.returnType = some .char) (hlocks : meth.locks = false) (hd : decode cc pc = .ok (.ireturn, 1)) (hn : narrow .char (.int x) = .int x) (hv : x = v) : W p l e R s m args below meth c s.heap [] 0 0 (MQ below (vp_Si (fun r => r = v)) args s 0 0 (fun _ => False)) (F0 m pc ls [.int x]) :=
  W.zret cx.1 cx.2.1 hr hn (fun t ht _ => ⟨x, rfl, hv, ht⟩) (fun q h => by cases h) hd hlocks
theorem WR.ret {ws0 ws1 : va_W} {v x : Int32} (cx : CallFix p m c cc nL s args Ts own) (hr : meth.sig.returnType = some .int) (hlocks : meth.locks = false) (hd : decode cc pc = .ok (.ireturn, 1)) (hv : x = v) (hP : va_P G.1 vwCl ws1 H) (hS : va_S (wA ws0) s.heap H locs) : W p l e R s m args below meth c H locs 0 0 (MQ below (QW G ws0 (some (.int v)) ws1) args s 0 0 (wA ws0)) (F0 m pc ls [.int x]) :=
  W.iret cx.1 cx.2.1 hr (fun t ht _ => ⟨⟨by rw [hv], by rw [ht]; exact hP⟩, hS.F ht⟩) hS.2.2 hd hlocks
theorem WR.retv {ws0 ws1 : va_W} (cx : CallFix p m c cc nL s args Ts own) (hr : meth.sig.returnType = none) (hlocks : meth.locks = false) (hd : decode cc pc = .ok (.return_, 1)) (hP : va_P G.1 vwCl ws1 H) (hS : va_S (wA ws0) s.heap H locs) : W p l e R s m args below meth c H locs 0 0 (MQ below (QW G ws0 none ws1) args s 0 0 (wA ws0)) (F0 m pc ls []) :=
  W.vret cx.1 cx.2.1 hr (fun t ht _ => ⟨⟨rfl, by rw [ht]; exact hP⟩, hS.F ht⟩) hS.2.2 hd hlocks
section CALLS
variable {y : MethodName} {bytes : ByteArray} {maxL index n fr lo : Nat} {ret : Option FieldType} {ws' : List Cond} {C : String} {b : Addr} {As : List Value} {ws0 ws1 : va_W}
theorem RO.callV {v : Int32} (cx : CallFix p m c cc nL s args Ts own) (hM : RO l y wsy fr lo G ws0 (.ref b :: As) v) (hG : GoodIn Ts (wsV own index C y wsy)) (hw : wsy = Cond.code y bytes maxL ret :: ws')
    (hd : y.cls = C ∧ y.cls ≠ "java/lang/invoke/MethodHandle" ∧ y.cls ≠ "java/lang/invoke/VarHandle" ∧ (parseMethodDescriptor y.desc).map (fun d => d.parameters.length) = some n) (hR : fr + 1 ≤ R.frames ∧ 8 + (maxL + 11) + lo ≤ R.locals)
    (hrecv : ∃ cell : Cell, H[b]? = some cell ∧ cell.vm.isStatics = false ∧ s.vm.findClass C = some cell.cls) (hK : va_K G.1 vwCl (T3 G) s) (hN : Nst s) (hP : va_P G.1 vwCl ws0 H) (hn : As.length = n) (hsize : ls.size = nL) (hst : st0 = As.reverse ++ .ref b :: rest) (hroom : (rest.map fun v => v.category).sum ≤ 8) (hdg : decode cc pc = .ok (.invokevirtual index, 3)) (hcs : cells ≤ R.cells ∧ slots ≤ R.slots)
    (kk : W p l e R s m args below meth c H locs cells slots Q (F0 m (pc + 3) ls (.int v :: rest))) : W p l e R s m args below meth c H locs cells slots Q (F0 m pc ls st0) :=
  vp_callSi (W.runV cx hM (cwV n cx.2.2.2.2 hG hw rfl rfl hd hR) ⟨Wd.bl, hrecv, fun U hU hW => ⟨rfl, by rw [hU]; exact hP, va_K.moved hW.alike hK, Nst.warm hW hN⟩⟩ rfl hn hsize hst (lv_room hroom) hdg hcs) (fun r hr => by subst hr; exact kk)
theorem RO.callS {v : Int32} (cx : CallFix p m c cc nL s args Ts own) (hM : RO l y wsy fr lo G ws0 As v) (hG : GoodIn Ts (va_wsS own index y wsy)) (hw : wsy = Cond.code y bytes maxL ret :: ws')
    (hd : y.cls ≠ "java/lang/invoke/MethodHandle" ∧ y.cls ≠ "java/lang/invoke/VarHandle" ∧ (parseMethodDescriptor y.desc).map (fun d => d.parameters.length) = some n) (hR : fr + 1 ≤ R.frames ∧ 8 + (maxL + 11) + lo ≤ R.locals)
    (hK : va_K G.1 vwCl (T3 G) s) (hN : Nst s) (hP : va_P G.1 vwCl ws0 H) (hn : As.length = n) (hsize : ls.size = nL) (hst : st0 = As.reverse ++ rest) (hroom : (rest.map fun v => v.category).sum ≤ 8) (hdg : decode cc pc = .ok (.invokestatic index, 3)) (hcs : cells ≤ R.cells ∧ slots ≤ R.slots)
    (kk : W p l e R s m args below meth c H locs cells slots Q (F0 m (pc + 3) ls (.int v :: rest))) : W p l e R s m args below meth c H locs cells slots Q (F0 m pc ls st0) :=
  vp_callSi (W.runS cx hM (va_cwS n cx.2.2.2.2 hG hw rfl rfl hd hR) ⟨Wd.bl, fun U hU hW => ⟨rfl, by rw [hU]; exact hP, va_K.moved hW.alike hK, Nst.warm hW hN⟩⟩ rfl hn hsize hst (lv_room hroom) hdg hcs) (fun r hr => by subst hr; exact kk)
theorem WR.callV {v : Option Value} (cx : CallFix p m c cc nL s args Ts own) (hM : WR l y wsy fr lo G ws0 (.ref b :: As) v ws1) (hG : GoodIn Ts (wsV own index C y wsy)) (hw : wsy = Cond.code y bytes maxL ret :: ws')
    (hd : y.cls = C ∧ y.cls ≠ "java/lang/invoke/MethodHandle" ∧ y.cls ≠ "java/lang/invoke/VarHandle" ∧ (parseMethodDescriptor y.desc).map (fun d => d.parameters.length) = some n) (hR : fr + 1 ≤ R.frames ∧ 8 + (maxL + 11) + lo ≤ R.locals)
    (hrecv : ∃ cell : Cell, H[b]? = some cell ∧ cell.vm.isStatics = false ∧ s.vm.findClass C = some cell.cls) (hK : va_K G.1 vwCl (T3 G) s) (hN : Nst s) (hP : va_P G.1 vwCl ws0 H) {A9 : Nat → Prop} (hD : va_D A9 ws0) (hS : va_S A0 H0 H locs) (hA : ∀ q, wA ws0 q → A0 q) (hn : As.length = n) (hsize : ls.size = nL) (hst : st0 = As.reverse ++ .ref b :: rest) (hroom : (rest.map fun v => v.category).sum ≤ 8) (hdg : decode cc pc = .ok (.invokevirtual index, 3)) (hcs : cells ≤ R.cells ∧ slots ≤ R.slots)
    (kk : ∀ (H1 : Heap) (locs1 : List Loc), va_P G.1 vwCl ws1 H1 → (∀ q : Nat, q < H.size → ¬ wA ws0 q → H1[q]? = H[q]?) → va_S A0 H0 H1 locs1 → W p l e R s m args below meth c H1 locs1 cells slots Q (F0 m (pc + 3) ls (v.toList ++ rest))) : W p l e R s m args below meth c H locs cells slots Q (F0 m pc ls st0) := by
  have hr := W.runV (mc := 0) (ms := 0) (rest := rest) (g := F0 m pc ls st0) (H := H) (locs := locs) (cells := cells) (slots := slots) (below := below) (meth := meth) (p := p) (e := e) cx hM (cwV n cx.2.2.2.2 hG hw rfl rfl hd hR) ⟨Wd.bl2, hrecv, fun U hU hW => ⟨rfl, ⟨by rw [hU]; exact hP, va_K.moved hW.alike hK, Nst.warm hW hN⟩, hD.weaken (fun _ _ _ _ => trivial)⟩⟩ rfl hn hsize hst (lv_room hroom) hdg hcs
  intro T hT X
  obtain ⟨v1, st₀, t, T', L, h0, X', hL, e1, ⟨⟨hv, hp⟩, hz, hk⟩, st⟩ := hr T hT X
  cases hv
  rw [h0] at hz hk
  obtain ⟨t2, a1, b1⟩ := kk T'.heap (locs ++ L) (by rw [e1]; exact hp) (fun q h1 h2 => by rw [e1]; exact hk q h1 h2)
    ⟨Nat.le_trans hS.1 (by rw [e1]; exact hz), fun q h1 h2 => by rw [e1, hk q (Nat.lt_of_lt_of_le h1 hS.1) (fun z => h2 (hA q z))]; exact hS.2.1 q h1 h2, fun q hq => by
      rcases List.mem_append.mp hq with h | h
      · exact hS.2.2 q h
      · exact hA _ (hL q h)⟩ T' rfl X'
  exact ⟨t2, st t2 a1, b1⟩
end CALLS
theorem nv_eqi {x y : Int32} (h : x = y) (k : W p l e R s m args below meth c H locs cells slots Q (F0 m pc ls (.int y :: rest))) : W p l e R s m args below meth c H locs cells slots Q (F0 m pc ls (.int x :: rest)) := by rw [h]; exact k
theorem nv_iadd (cx : CallFix p m c cc nL s args Ts own) {a b : Nat} (hdg : decode cc pc = .ok (.iadd, 1)) (k : W p l e R s m args below meth c H locs cells slots Q (F0 m (pc + 1) ls (.int (nI (a + b)) :: rest))) : W p l e R s m args below meth c H locs cells slots Q (F0 m pc ls (.int (nI b) :: .int (nI a) :: rest)) :=
  lv_iadd cx.1 cx.2.1 hdg (by rw [nI_add]; exact k)
theorem nv_imul (cx : CallFix p m c cc nL s args Ts own) {a b : Nat} (hdg : decode cc pc = .ok (.imul, 1)) (k : W p l e R s m args below meth c H locs cells slots Q (F0 m (pc + 1) ls (.int (nI (a * b)) :: rest))) : W p l e R s m args below meth c H locs cells slots Q (F0 m pc ls (.int (nI b) :: .int (nI a) :: rest)) :=
  lv_imul cx.1 cx.2.1 hdg (by rw [pk_mul]; exact k)
theorem nv_isub (cx : CallFix p m c cc nL s args Ts own) {a b : Nat} (h : b ≤ a) (hdg : decode cc pc = .ok (.isub, 1)) (k : W p l e R s m args below meth c H locs cells slots Q (F0 m (pc + 1) ls (.int (nI (a - b)) :: rest))) : W p l e R s m args below meth c H locs cells slots Q (F0 m pc ls (.int (nI b) :: .int (nI a) :: rest)) :=
  lv_isub cx.1 cx.2.1 hdg (by rw [pk_sub h]; exact k)
theorem nv_icmp_eq (cx : CallFix p m c cc nL s args Ts own) {a b : Nat} {off : Int} {tgt : Nat} (hdg : decode cc pc = .ok (.if_icmp .eq off, 3)) (ht : (pc : Int) + off = (tgt : Int)) (ha : a < 2147483648) (hb : b < 2147483648)
    (kt : a = b → W p l e R s m args below meth c H locs cells slots Q (F0 m tgt ls rest)) (kf : ¬ a = b → W p l e R s m args below meth c H locs cells slots Q (F0 m (pc + 3) ls rest)) : W p l e R s m args below meth c H locs cells slots Q (F0 m pc ls (.int (nI b) :: .int (nI a) :: rest)) :=
  lv_icmp_eq cx.1 cx.2.1 hdg ht (fun h => kt ((nI_eq ha hb).mp h)) (fun h => kf (fun q => h ((nI_eq ha hb).mpr q)))
theorem nv_icmp_ne (cx : CallFix p m c cc nL s args Ts own) {a b : Nat} {off : Int} {tgt : Nat} (hdg : decode cc pc = .ok (.if_icmp .ne off, 3)) (ht : (pc : Int) + off = (tgt : Int)) (ha : a < 2147483648) (hb : b < 2147483648)
    (kt : ¬ a = b → W p l e R s m args below meth c H locs cells slots Q (F0 m tgt ls rest)) (kf : a = b → W p l e R s m args below meth c H locs cells slots Q (F0 m (pc + 3) ls rest)) : W p l e R s m args below meth c H locs cells slots Q (F0 m pc ls (.int (nI b) :: .int (nI a) :: rest)) :=
  lv_icmp_ne cx.1 cx.2.1 hdg ht (fun h => kt (fun q => h ((nI_eq ha hb).mpr q))) (fun h => kf ((nI_eq ha hb).mp h))
theorem nv_icmp_lt (cx : CallFix p m c cc nL s args Ts own) {a b : Nat} {off : Int} {tgt : Nat} (hdg : decode cc pc = .ok (.if_icmp .lt off, 3)) (ht : (pc : Int) + off = (tgt : Int)) (ha : a < 2147483648) (hb : b < 2147483648)
    (kt : a < b → W p l e R s m args below meth c H locs cells slots Q (F0 m tgt ls rest)) (kf : b ≤ a → W p l e R s m args below meth c H locs cells slots Q (F0 m (pc + 3) ls rest)) : W p l e R s m args below meth c H locs cells slots Q (F0 m pc ls (.int (nI b) :: .int (nI a) :: rest)) :=
  lv_icmp_lt cx.1 cx.2.1 hdg ht (fun h => kt ((nI_ltI ha hb).mp h)) (fun h => kf (Nat.le_of_not_lt fun q => h ((nI_ltI ha hb).mpr q)))
theorem nv_icmp_ge (cx : CallFix p m c cc nL s args Ts own) {a b : Nat} {off : Int} {tgt : Nat} (hdg : decode cc pc = .ok (.if_icmp .ge off, 3)) (ht : (pc : Int) + off = (tgt : Int)) (ha : a < 2147483648) (hb : b < 2147483648)
    (kt : b ≤ a → W p l e R s m args below meth c H locs cells slots Q (F0 m tgt ls rest)) (kf : a < b → W p l e R s m args below meth c H locs cells slots Q (F0 m (pc + 3) ls rest)) : W p l e R s m args below meth c H locs cells slots Q (F0 m pc ls (.int (nI b) :: .int (nI a) :: rest)) :=
  lv_icmp_ge cx.1 cx.2.1 hdg ht (fun h => kt ((nI_leI hb ha).mp h)) (fun h => kf (Nat.lt_of_not_le fun q => h ((nI_leI hb ha).mpr q)))
theorem nv_icmp_gt (cx : CallFix p m c cc nL s args Ts own) {a b : Nat} {off : Int} {tgt : Nat} (hdg : decode cc pc = .ok (.if_icmp .gt off, 3)) (ht : (pc : Int) + off = (tgt : Int)) (ha : a < 2147483648) (hb : b < 2147483648)
    (kt : b < a → W p l e R s m args below meth c H locs cells slots Q (F0 m tgt ls rest)) (kf : a ≤ b → W p l e R s m args below meth c H locs cells slots Q (F0 m (pc + 3) ls rest)) : W p l e R s m args below meth c H locs cells slots Q (F0 m pc ls (.int (nI b) :: .int (nI a) :: rest)) :=
  lv_icmp_gt cx.1 cx.2.1 hdg ht (fun h => kt ((nI_ltI hb ha).mp h)) (fun h => kf (Nat.le_of_not_lt fun q => h ((nI_ltI hb ha).mpr q)))
theorem nv_icmp_le (cx : CallFix p m c cc nL s args Ts own) {a b : Nat} {off : Int} {tgt : Nat} (hdg : decode cc pc = .ok (.if_icmp .le off, 3)) (ht : (pc : Int) + off = (tgt : Int)) (ha : a < 2147483648) (hb : b < 2147483648)
    (kt : a ≤ b → W p l e R s m args below meth c H locs cells slots Q (F0 m tgt ls rest)) (kf : b < a → W p l e R s m args below meth c H locs cells slots Q (F0 m (pc + 3) ls rest)) : W p l e R s m args below meth c H locs cells slots Q (F0 m pc ls (.int (nI b) :: .int (nI a) :: rest)) :=
  lv_icmp_le cx.1 cx.2.1 hdg ht (fun h => kt ((nI_leI ha hb).mp h)) (fun h => kf (Nat.lt_of_not_le fun q => h ((nI_leI ha hb).mpr q)))
theorem nI_z {a : Nat} (ha : a < 2147483648) : nI a = 0 ↔ a = 0 := nI_eq (b := 0) ha (by decide)
theorem nv_if_eq (cx : CallFix p m c cc nL s args Ts own) {a : Nat} {off : Int} {tgt : Nat} (hdg : decode cc pc = .ok (.ifCond .eq off, 3)) (ht : (pc : Int) + off = (tgt : Int)) (ha : a < 2147483648)
    (kt : a = 0 → W p l e R s m args below meth c H locs cells slots Q (F0 m tgt ls rest)) (kf : ¬ a = 0 → W p l e R s m args below meth c H locs cells slots Q (F0 m (pc + 3) ls rest)) : W p l e R s m args below meth c H locs cells slots Q (F0 m pc ls (.int (nI a) :: rest)) :=
  lv_if_eq cx.1 cx.2.1 hdg ht (fun h => kt ((nI_z ha).mp h)) (fun h => kf (fun q => h ((nI_z ha).mpr q)))
theorem nv_if_ne (cx : CallFix p m c cc nL s args Ts own) {a : Nat} {off : Int} {tgt : Nat} (hdg : decode cc pc = .ok (.ifCond .ne off, 3)) (ht : (pc : Int) + off = (tgt : Int)) (ha : a < 2147483648)
    (kt : ¬ a = 0 → W p l e R s m args below meth c H locs cells slots Q (F0 m tgt ls rest)) (kf : a = 0 → W p l e R s m args below meth c H locs cells slots Q (F0 m (pc + 3) ls rest)) : W p l e R s m args below meth c H locs cells slots Q (F0 m pc ls (.int (nI a) :: rest)) :=
  lv_if_ne cx.1 cx.2.1 hdg ht (fun h => kt (fun q => h ((nI_z ha).mpr q))) (fun h => kf ((nI_z ha).mp h))
theorem nv_if_lt (cx : CallFix p m c cc nL s args Ts own) {a : Nat} {off : Int} (hdg : decode cc pc = .ok (.ifCond .lt off, 3)) {tgt : Nat} (ht : (pc : Int) + off = (tgt : Int)) (ha : a < 2147483648)
    (kf : W p l e R s m args below meth c H locs cells slots Q (F0 m (pc + 3) ls rest)) : W p l e R s m args below meth c H locs cells slots Q (F0 m pc ls (.int (nI a) :: rest)) :=
  lv_if_lt cx.1 cx.2.1 hdg ht (fun h => absurd h (nI_pos ha)) (fun _ => kf)
theorem nv_if_ge (cx : CallFix p m c cc nL s args Ts own) {a : Nat} {off : Int} (hdg : decode cc pc = .ok (.ifCond .ge off, 3)) {tgt : Nat} (ht : (pc : Int) + off = (tgt : Int)) (ha : a < 2147483648)
    (kt : W p l e R s m args below meth c H locs cells slots Q (F0 m tgt ls rest)) : W p l e R s m args below meth c H locs cells slots Q (F0 m pc ls (.int (nI a) :: rest)) :=
  lv_if_ge cx.1 cx.2.1 hdg ht (fun _ => kt) (fun h => absurd (nI_pos' ha) h)
theorem nI_gz {a : Nat} (ha : a < 2147483648) : 0 < nI a ↔ 0 < a := nI_ltI (a := 0) (by decide) ha
theorem nv_if_gt (cx : CallFix p m c cc nL s args Ts own) {a : Nat} {off : Int} {tgt : Nat} (hdg : decode cc pc = .ok (.ifCond .gt off, 3)) (ht : (pc : Int) + off = (tgt : Int)) (ha : a < 2147483648)
    (kt : 0 < a → W p l e R s m args below meth c H locs cells slots Q (F0 m tgt ls rest)) (kf : a = 0 → W p l e R s m args below meth c H locs cells slots Q (F0 m (pc + 3) ls rest)) : W p l e R s m args below meth c H locs cells slots Q (F0 m pc ls (.int (nI a) :: rest)) :=
  lv_if_gt cx.1 cx.2.1 hdg ht (fun h => kt ((nI_gz ha).mp h)) (fun h => kf (Nat.eq_zero_of_not_pos fun q => h ((nI_gz ha).mpr q)))
theorem nv_if_le (cx : CallFix p m c cc nL s args Ts own) {a : Nat} {off : Int} {tgt : Nat} (hdg : decode cc pc = .ok (.ifCond .le off, 3)) (ht : (pc : Int) + off = (tgt : Int)) (ha : a < 2147483648)
    (kt : a = 0 → W p l e R s m args below meth c H locs cells slots Q (F0 m tgt ls rest)) (kf : 0 < a → W p l e R s m args below meth c H locs cells slots Q (F0 m (pc + 3) ls rest)) : W p l e R s m args below meth c H locs cells slots Q (F0 m pc ls (.int (nI a) :: rest)) :=
  lv_if_le cx.1 cx.2.1 hdg ht (fun h => kt (Nat.eq_zero_of_not_pos fun q => by
    have h2 := (nI_gz ha).mpr q
    rw [Int32.lt_iff_toInt_lt] at h2
    rw [Int32.le_iff_toInt_le] at h
    omega)) (fun h => kf (Nat.pos_of_ne_zero fun q => h (by subst q; exact (by decide))))
theorem nv_ifz (cx : CallFix p m c cc nL s args Ts own) {b : Bool} {off : Int} {tgt : Nat} (hdg : decode cc pc = .ok (.ifCond .eq off, 3)) (ht : (pc : Int) + off = (tgt : Int))
    (kt : b = false → W p l e R s m args below meth c H locs cells slots Q (F0 m tgt ls rest)) (kf : b = true → W p l e R s m args below meth c H locs cells slots Q (F0 m (pc + 3) ls rest)) : W p l e R s m args below meth c H locs cells slots Q (F0 m pc ls (.int (b2i b) :: rest)) :=
  lv_if_eq cx.1 cx.2.1 hdg ht (fun h => kt (b2i_0.mp h)) (fun h => kf (by cases b <;> first | rfl | exact absurd rfl h))
theorem nv_ifnz (cx : CallFix p m c cc nL s args Ts own) {b : Bool} {off : Int} {tgt : Nat} (hdg : decode cc pc = .ok (.ifCond .ne off, 3)) (ht : (pc : Int) + off = (tgt : Int))
    (kt : b = true → W p l e R s m args below meth c H locs cells slots Q (F0 m tgt ls rest)) (kf : b = false → W p l e R s m args below meth c H locs cells slots Q (F0 m (pc + 3) ls rest)) : W p l e R s m args below meth c H locs cells slots Q (F0 m pc ls (.int (b2i b) :: rest)) :=
  lv_if_ne cx.1 cx.2.1 hdg ht (fun h => kt (by cases b <;> first | rfl | exact absurd rfl h)) (fun h => kf (b2i_0.mp h))
section ARR
variable {D : va_G} {cl : List vw_C} {A : Nat → Prop} {a : Nat} {tys : List (ClassId × FieldType)} {ws : va_W}
theorem nv_iald (cx : CallFix p m c cc nL s args Ts own) (hK : va_K D cl tys s) (hP : va_P D cl ws H) (q0 t0 : Nat) {cA : ClassId} {n : Nat} {f : Nat → Int32} (ha : ws[q0]? = some (a, .inl (cA, n, .inl f))) (ht : tys[t0]? = some (cA, .int)) {j : Nat} (hj : j < n) (hn : n < 2147483648) (hdg : decode cc pc = .ok (.iaload, 1))
    (kk : W p l e R s m args below meth c H locs cells slots Q (F0 m (pc + 1) ls (.int (f j) :: rest))) : W p l e R s m args below meth c H locs cells slots Q (F0 m pc ls (.int (nI j) :: .ref a :: rest)) :=
  va_iald cx.1 cx.2.1 hK hP q0 t0 ha ht (vp_in_nI hj hn) hdg (by rw [nI_clamp (Nat.lt_trans hj hn)]; exact kk)
theorem nv_cald (cx : CallFix p m c cc nL s args Ts own) (hK : va_K D cl tys s) (hP : va_P D cl ws H) (q0 t0 : Nat) {cA : ClassId} {n : Nat} {f : Nat → Int32} (ha : ws[q0]? = some (a, .inl (cA, n, .inl f))) (ht : tys[t0]? = some (cA, .char)) {j : Nat} (hj : j < n) (hn : n < 2147483648) (hdg : decode cc pc = .ok (.caload, 1))
    (kk : W p l e R s m args below meth c H locs cells slots Q (F0 m (pc + 1) ls (.int (f j) :: rest))) : W p l e R s m args below meth c H locs cells slots Q (F0 m pc ls (.int (nI j) :: .ref a :: rest)) :=
  va_cald cx.1 cx.2.1 hK hP q0 t0 ha ht (vp_in_nI hj hn) hdg (by rw [nI_clamp (Nat.lt_trans hj hn)]; exact kk)
theorem nv_iast (cx : CallFix p m c cc nL s args Ts own) (hK : va_K D cl tys s) (hP : va_P D cl ws H) (hD : va_D A ws) (hS : va_S A H0 H locs) (q0 t0 : Nat) {cA : ClassId} {n : Nat} {f : Nat → Int32} (ha : ws[q0]? = some (a, .inl (cA, n, .inl f))) (ht : tys[t0]? = some (cA, .int)) {j : Nat} {x : Int32} (hj : j < n) (hn : n < 2147483648) (hdg : decode cc pc = .ok (.iastore, 1)) {ws1 : va_W} (hw1 : ws.set q0 (a, .inl (cA, n, .inl (upd f j x))) = ws1)
    (kk : ∀ (H1 : Heap) (locs1 : List Loc), va_P D cl ws1 H1 → va_D A ws1 → va_S A H0 H1 locs1 → W p l e R s m args below meth c H1 locs1 cells slots Q (F0 m (pc + 1) ls rest)) : W p l e R s m args below meth c H locs cells slots Q (F0 m pc ls (.int x :: .int (nI j) :: .ref a :: rest)) :=
  va_iast cx.1 cx.2.1 hK hP hD hS q0 t0 ha ht (vp_in_nI hj hn) hdg (fun H1 locs1 h1 h2 h3 => by rw [nI_clamp (Nat.lt_trans hj hn), hw1] at h1 h2; exact kk H1 locs1 h1 h2 h3)
theorem nv_cast (cx : CallFix p m c cc nL s args Ts own) (hK : va_K D cl tys s) (hP : va_P D cl ws H) (hD : va_D A ws) (hS : va_S A H0 H locs) (q0 t0 : Nat) {cA : ClassId} {n : Nat} {f : Nat → Int32} (ha : ws[q0]? = some (a, .inl (cA, n, .inl f))) (ht : tys[t0]? = some (cA, .char)) {j : Nat} {x : Int32} (hx : narrow .char (.int x) = .int x) (hj : j < n) (hn : n < 2147483648) (hdg : decode cc pc = .ok (.castore, 1)) {ws1 : va_W} (hw1 : ws.set q0 (a, .inl (cA, n, .inl (upd f j x))) = ws1)
    (kk : ∀ (H1 : Heap) (locs1 : List Loc), va_P D cl ws1 H1 → va_D A ws1 → va_S A H0 H1 locs1 → W p l e R s m args below meth c H1 locs1 cells slots Q (F0 m (pc + 1) ls rest)) : W p l e R s m args below meth c H locs cells slots Q (F0 m pc ls (.int x :: .int (nI j) :: .ref a :: rest)) :=
  va_cast cx.1 cx.2.1 hK hP hD hS q0 t0 ha ht (vp_in_nI hj hn) hdg (fun H1 locs1 h1 h2 h3 => by rw [nI_clamp (Nat.lt_trans hj hn), show vp_nar .char x = x by simp [vp_nar, hx], hw1] at h1 h2; exact kk H1 locs1 h1 h2 h3)
end ARR
end NV
theorem cell_row (cA : ClassId) {n : Nat} {f g : Nat → Int32} (h : ∀ j, j < n → f j = g j) : vp_cell cA (n, .inl f) = vp_cell cA (n, .inl g) := by
  rw [vp_cell_i, vp_cell_i]
  unfold arrV
  congr 1
  apply Array.ext
  · simp
  · intro i h1 h2
    simp only [Array.size_ofFn] at h1
    simp [h i h1]
theorem va_P.row {D : va_G} {cl : List vw_C} {ws : va_W} {H : Heap} (hP : va_P D cl ws H) (q0 : Nat) {a : Nat} {cA : ClassId} {n : Nat} {f g : Nat → Int32} (ha : ws[q0]? = some (a, .inl (cA, n, .inl f))) (h : ∀ j, j < n → f j = g j) {ws1 : va_W} (hw1 : ws.set q0 (a, .inl (cA, n, .inl g)) = ws1) : va_P D cl ws1 H := by
  subst hw1
  intro k q hk
  by_cases hkq : k = q0
  · subst hkq
    rw [List.getElem?_set_self (List.getElem?_eq_some_iff.mp ha).1] at hk
    cases hk
    have h1 := hP k _ ha
    show H[a]? = some (vp_cell cA (n, .inl g))
    rw [← cell_row cA h]
    exact h1
  · rw [List.getElem?_set_ne (Ne.symm hkq)] at hk
    exact hP k q hk
theorem va_D.fst {A : Nat → Prop} {ws ws1 : va_W} (hD : va_D A ws) (h : ws1.map Prod.fst = ws.map Prod.fst) : va_D A ws1 := by
  have key : ∀ (k : Nat) (q : Nat × va_E), ws1[k]? = some q → ∃ q0, ws[k]? = some q0 ∧ q0.1 = q.1 := by
    intro k q hk
    have h1 : (ws1.map Prod.fst)[k]? = some q.1 := by rw [List.getElem?_map, hk]; rfl
    rw [h, List.getElem?_map] at h1
    cases h2 : ws[k]? with
    | none => rw [h2] at h1; cases h1
    | some q0 => rw [h2] at h1; exact ⟨q0, rfl, Option.some.inj h1⟩
  refine ⟨fun i j x y hi hj hxy => ?_, fun k q hk => ?_⟩
  · obtain ⟨x0, h1, h2⟩ := key i x hi
    obtain ⟨y0, h3, h4⟩ := key j y hj
    exact hD.1 i j x0 y0 h1 h3 (h2.trans (hxy.trans h4.symm))
  · obtain ⟨q0, h1, h2⟩ := key k q hk
    rw [← h2]
    exact hD.2 k q0 h1
