/-! ===== contracts for the law's methods: an answer that is long; an answer and a world that are only known by what holds of them ===== -/
def ROl (l : Launch) (y : MethodName) (wsy : List Cond) (fr lo : Nat) (G : GG) (ws : va_W) (av : List Value) (v : Int64) : Prop := Met l y wsy ({ frames := fr, cells := 0, slots := 0, locals := lo } : Room) (va_Pc av (Wd G ws)) (vp_Sl (fun r => r = v)) 0 0 (fun _ => False)
theorem ROl.start {l : Launch} {y : MethodName} {wsy : List Cond} {fr lo : Nat} {G : GG} {ws : va_W} {av : List Value} {v : Int64} {cc : ByteArray} {maxL : Nat} {ret : Option FieldType} {ws' : List Cond} (hy : plainName y.cls = true) (hw : wsy = Cond.code y cc maxL ret :: ws') (hlen : (lg_sl av).length ≤ maxL)
    (body : ∀ (p : Program) (e : Env) (s : State) (m : MethodId) (below : List Frame) (meth : Method) (c : Code) (ls : Array Slot), CallFix p m c cc maxL s av.toArray wsy y.cls → meth.sig.returnType = ret → meth.locks = false → va_K G.1 vwCl (T3 G) s → Nst s → va_P G.1 vwCl ws s.heap → lv_has ls maxL (lv_args 0 av) →
      W p l e ({ frames := fr, cells := 0, slots := 0, locals := lo } : Room) s m av.toArray below meth c s.heap [] 0 0 (MQ below (vp_Sl (fun r => r = v)) av.toArray s 0 0 (fun _ => False)) (F0 m 0 ls [])) : ROl l y wsy fr lo G ws av v := by
  refine Met.ofW hy hw ?_
  intro p e s m args below meth c s₁ B hml hv
  obtain ⟨rfl, hP, hK, hN⟩ := hv
  have hown : s.vm.findClass y.cls = some m.cls := findClass_of_methodNamed B.named
  rw [lg_entry_eq]
  exact body p e s m below meth c _ ⟨B.exec, B.bytes, hml, hown, atoms_spec (ws := wsy) B.pre⟩ B.returns B.notSynchronized hK hN hP (lv_entry av hlen)
def QL (G : GG) (ws0 : va_W) (post : Int32 → va_W → Prop) : Array Value → State → Outcome → State → Prop := fun _ st oc t => (∃ (v : Int32) (ws1 : va_W), oc = .returned (some (.int v)) ∧ post v ws1 ∧ va_P G.1 vwCl ws1 t.heap) ∧ va_F (wA ws0) st t
def LW (l : Launch) (y : MethodName) (wsy : List Cond) (fr lo : Nat) (G : GG) (ws0 : va_W) (av : List Value) (post : Int32 → va_W → Prop) : Prop := Met l y wsy ({ frames := fr, cells := 0, slots := 0, locals := lo } : Room) (va_Pc av (fun U => Wd G ws0 U ∧ va_D (fun _ => True) ws0)) (QL G ws0 post) 0 0 (wA ws0)
theorem LW.start {l : Launch} {y : MethodName} {wsy : List Cond} {fr lo : Nat} {G : GG} {ws0 : va_W} {av : List Value} {post : Int32 → va_W → Prop} {cc : ByteArray} {maxL : Nat} {ret : Option FieldType} {ws' : List Cond} (hy : plainName y.cls = true) (hw : wsy = Cond.code y cc maxL ret :: ws') (hlen : (lg_sl av).length ≤ maxL)
    (body : ∀ (p : Program) (e : Env) (s : State) (m : MethodId) (below : List Frame) (meth : Method) (c : Code) (ls : Array Slot), CallFix p m c cc maxL s av.toArray wsy y.cls → meth.sig.returnType = ret → meth.locks = false → va_K G.1 vwCl (T3 G) s → Nst s → va_P G.1 vwCl ws0 s.heap → va_D (wA ws0) ws0 → va_S (wA ws0) s.heap s.heap [] → lv_has ls maxL (lv_args 0 av) →
      W p l e ({ frames := fr, cells := 0, slots := 0, locals := lo } : Room) s m av.toArray below meth c s.heap [] 0 0 (MQ below (QL G ws0 post) av.toArray s 0 0 (wA ws0)) (F0 m 0 ls [])) : LW l y wsy fr lo G ws0 av post := by
  refine Met.ofW hy hw ?_
  intro p e s m args below meth c s₁ B hml hv
  obtain ⟨rfl, ⟨hP, hK, hN⟩, hD⟩ := hv
  have hown : s.vm.findClass y.cls = some m.cls := findClass_of_methodNamed B.named
  rw [lg_entry_eq]
  exact body p e s m below meth c _ ⟨B.exec, B.bytes, hml, hown, atoms_spec (ws := wsy) B.pre⟩ B.returns B.notSynchronized hK hN hP (wA_D hD) va_S.rf (lv_entry av hlen)
section NV28
variable {p : Program} {l : Launch} {e : Env} {R : Room} {s : State} {m : MethodId} {args : Array Value} {below : List Frame} {meth : Method} {c : Code} {H : Heap} {locs : List Loc} {cells slots : Nat} {Q : State → Prop}
variable {cc : ByteArray} {pc nL : Nat} {ls : Array Slot} {rest st0 : List Value} {Ts wsy : List Cond} {own : String} {G : GG} {A0 : Nat → Prop} {H0 : Heap}
variable {y : MethodName} {bytes : ByteArray} {maxL index n fr lo : Nat} {rt : Option FieldType} {ws' : List Cond} {b : Addr} {As : List Value} {ws0 ws1 : va_W}
theorem ROl.ret {v x : Int64} (cx : CallFix p m c cc nL s args Ts own) (hr : meth.sig.returnType = some .long) (hlocks : meth.locks = false) (hd : decode cc pc = .ok (.lreturn, 1)) (hv : x = v) : W p l e R s m args below meth c s.heap [] 0 0 (MQ below (vp_Sl (fun r => r = v)) args s 0 0 (fun _ => False)) (F0 m pc ls [.long x]) :=
  W.lret cx.1 cx.2.1 hr (fun t ht _ => ⟨x, rfl, hv, ht⟩) (fun q h => by cases h) hd hlocks
theorem ROl.callS {v : Int64} (cx : CallFix p m c cc nL s args Ts own) (hM : ROl l y wsy fr lo G ws0 As v) (hG : GoodIn Ts (va_wsS own index y wsy)) (hw : wsy = Cond.code y bytes maxL rt :: ws')
    (hd : y.cls ≠ "java/lang/invoke/MethodHandle" ∧ y.cls ≠ "java/lang/invoke/VarHandle" ∧ (parseMethodDescriptor y.desc).map (fun d => d.parameters.length) = some n) (hR : fr + 1 ≤ R.frames ∧ 8 + (maxL + 11) + lo ≤ R.locals)
    (hK : va_K G.1 vwCl (T3 G) s) (hN : Nst s) (hP : va_P G.1 vwCl ws0 H) (hn : As.length = n) (hsize : ls.size = nL) (hst : st0 = As.reverse ++ rest) (hroom : (rest.map fun v => v.category).sum ≤ 8) (hdg : decode cc pc = .ok (.invokestatic index, 3)) (hcs : cells ≤ R.cells ∧ slots ≤ R.slots)
    (kk : W p l e R s m args below meth c H locs cells slots Q (F0 m (pc + 3) ls (.long v :: rest))) : W p l e R s m args below meth c H locs cells slots Q (F0 m pc ls st0) :=
  vp_callSl (W.runS cx hM (va_cwS n cx.2.2.2.2 hG hw rfl rfl hd hR) ⟨Wd.bl, fun U hU hW => ⟨rfl, by rw [hU]; exact hP, va_K.moved hW.alike hK, Nst.warm hW hN⟩⟩ rfl hn hsize hst (lv_room hroom) hdg hcs) (fun r hr => by subst hr; exact kk)
theorem LW.ret {post : Int32 → va_W → Prop} {x : Int32} (cx : CallFix p m c cc nL s args Ts own) (hr : meth.sig.returnType = some .int) (hlocks : meth.locks = false) (hd : decode cc pc = .ok (.ireturn, 1)) (hp : post x ws1) (hP : va_P G.1 vwCl ws1 H) (hS : va_S (wA ws0) s.heap H locs) : W p l e R s m args below meth c H locs 0 0 (MQ below (QL G ws0 post) args s 0 0 (wA ws0)) (F0 m pc ls [.int x]) :=
  W.iret cx.1 cx.2.1 hr (fun t ht _ => ⟨⟨x, ws1, rfl, hp, by rw [ht]; exact hP⟩, hS.F ht⟩) hS.2.2 hd hlocks
theorem LW.retz {post : Int32 → va_W → Prop} {x : Int32} (cx : CallFix p m c cc nL s args Ts own) (hr : meth.sig.returnType = some .boolean) (hlocks : meth.locks = false) (hd : decode cc pc = .ok (.ireturn, 1)) (hx : narrow .boolean (.int x) = .int x) (hp : post x ws1) (hP : va_P G.1 vwCl ws1 H) (hS : va_S (wA ws0) s.heap H locs) : W p l e R s m args below meth c H locs 0 0 (MQ below (QL G ws0 post) args s 0 0 (wA ws0)) (F0 m pc ls [.int x]) :=
  W.zret cx.1 cx.2.1 hr hx (fun t ht _ => ⟨⟨x, ws1, rfl, hp, by rw [ht]; exact hP⟩, hS.F ht⟩) hS.2.2 hd hlocks
theorem LW.callS {post : Int32 → va_W → Prop} (cx : CallFix p m c cc nL s args Ts own) (hM : LW l y wsy fr lo G ws0 As post) (hG : GoodIn Ts (va_wsS own index y wsy)) (hw : wsy = Cond.code y bytes maxL rt :: ws')
    (hd : y.cls ≠ "java/lang/invoke/MethodHandle" ∧ y.cls ≠ "java/lang/invoke/VarHandle" ∧ (parseMethodDescriptor y.desc).map (fun d => d.parameters.length) = some n) (hR : fr + 1 ≤ R.frames ∧ 8 + (maxL + 11) + lo ≤ R.locals)
    (hK : va_K G.1 vwCl (T3 G) s) (hN : Nst s) (hP : va_P G.1 vwCl ws0 H) {A9 : Nat → Prop} (hD : va_D A9 ws0) (hS : va_S A0 H0 H locs) (hA : ∀ q, wA ws0 q → A0 q) (hn : As.length = n) (hsize : ls.size = nL) (hst : st0 = As.reverse ++ rest) (hroom : (rest.map fun v => v.category).sum ≤ 8) (hdg : decode cc pc = .ok (.invokestatic index, 3)) (hcs : cells ≤ R.cells ∧ slots ≤ R.slots)
    (kk : ∀ (v : Int32) (ws1 : va_W) (H1 : Heap) (locs1 : List Loc), post v ws1 → va_P G.1 vwCl ws1 H1 → (∀ q : Nat, q < H.size → ¬ wA ws0 q → H1[q]? = H[q]?) → va_S A0 H0 H1 locs1 → W p l e R s m args below meth c H1 locs1 cells slots Q (F0 m (pc + 3) ls (.int v :: rest))) : W p l e R s m args below meth c H locs cells slots Q (F0 m pc ls st0) := by
  have hr := W.runS (mc := 0) (ms := 0) (rest := rest) (g := F0 m pc ls st0) (H := H) (locs := locs) (cells := cells) (slots := slots) (below := below) (meth := meth) (p := p) (e := e) cx hM (va_cwS n cx.2.2.2.2 hG hw rfl rfl hd hR) ⟨Wd.bl2, fun U hU hW => ⟨rfl, ⟨by rw [hU]; exact hP, va_K.moved hW.alike hK, Nst.warm hW hN⟩, hD.weaken (fun _ _ _ _ => trivial)⟩⟩ rfl hn hsize hst (lv_room hroom) hdg hcs
  intro T hT X
  obtain ⟨v1, st₀, t, T', L, h0, X', hL, e1, ⟨⟨v, w1, hv, hq, hp⟩, hz, hk⟩, st⟩ := hr T hT X
  cases hv
  rw [h0] at hz hk
  obtain ⟨t2, a1, b1⟩ := kk v w1 T'.heap (locs ++ L) hq (by rw [e1]; exact hp) (fun q h1 h2 => by rw [e1]; exact hk q h1 h2)
    ⟨Nat.le_trans hS.1 (by rw [e1]; exact hz), fun q h1 h2 => by rw [e1, hk q (Nat.lt_of_lt_of_le h1 hS.1) (fun z => h2 (hA q z))]; exact hS.2.1 q h1 h2, fun q hq => by
      rcases List.mem_append.mp hq with h | h
      · exact hS.2.2 q h
      · exact hA _ (hL q h)⟩ T' rfl X'
  exact ⟨t2, st t2 a1, b1⟩
end NV28
