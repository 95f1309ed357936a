/-! ===== derived rows for constructors ===== -/
theorem va_RA.nm {U : State} {cA : ClassId} {ty : FieldType} (h : va_RA U cA ty) : U.vm.findClass ("[" ++ ty.toString) = some cA := by
  cases ty with
  | object C =>
    obtain ⟨_, _, _, _, _, h4⟩ := h
    exact h4
  | _ => exact h
theorem T3_eq {G : GG} {U : State} {cA : ClassId} {ty : FieldType} {i : Nat} {cG : ClassId} (hK : va_K G.1 vwCl (T3 G ++ [(cA, ty)]) U) (hi : (T3 G)[i]? = some (cG, ty)) : cA = cG := by
  have h1 := (hK.2 3 (cA, ty) rfl).2.nm
  have h2 := (hK.2 i (cG, ty) (by rw [List.getElem?_append_left ((List.getElem?_eq_some_iff.mp hi).1)]; exact hi)).2.nm
  exact Option.some.inj (h1.symm.trans h2)
def nmw : List Cond := [.methodLinkNest RX6 (9 : Nat) yX4_init "NamePlate", .methodLinkNest RX4 (11 : Nat) yX1_init "NamePlate", .methodLinkNest RX4 (20 : Nat) yX2_init "NamePlate", .methodLinkNest RX0 (24 : Nat) yX4_init "NamePlate", .methodLinkNest RX6 (28 : Nat) yX5_init "NamePlate"]
def Nsm (U : State) : Prop := ∀ w ∈ nmw, va_Nw w U
theorem Nsm.at {U : State} (h : Nsm U) (i : Nat) {w : Cond} (hi : nmw[i]? = some w) : va_Nw w U := h w (List.mem_of_getElem? hi)
theorem Nsm.warm {s U : State} (hW : s.WarmedH U.vm) (h : Nsm s) : Nsm U := (List.forall_mem_cons.mpr ⟨va_Nw.warmM hW (h.at 0 rfl), (List.forall_mem_cons.mpr ⟨va_Nw.warmM hW (h.at 1 rfl), (List.forall_mem_cons.mpr ⟨va_Nw.warmM hW (h.at 2 rfl), (List.forall_mem_cons.mpr ⟨va_Nw.warmM hW (h.at 3 rfl), (List.forall_mem_cons.mpr ⟨va_Nw.warmM hW (h.at 4 rfl), (fun _ h => absurd h List.not_mem_nil)⟩)⟩)⟩)⟩)⟩)
theorem Nsm.same {s U : State} (hv : s.vm = U.vm) (h : Nsm s) : Nsm U := (List.forall_mem_cons.mpr ⟨va_Nw.same rfl hv (h.at 0 rfl), (List.forall_mem_cons.mpr ⟨va_Nw.same rfl hv (h.at 1 rfl), (List.forall_mem_cons.mpr ⟨va_Nw.same rfl hv (h.at 2 rfl), (List.forall_mem_cons.mpr ⟨va_Nw.same rfl hv (h.at 3 rfl), (List.forall_mem_cons.mpr ⟨va_Nw.same rfl hv (h.at 4 rfl), (fun _ h => absurd h List.not_mem_nil)⟩)⟩)⟩)⟩)⟩)
def WdI (G : GG) (U : State) : Prop := va_K G.1 vwCl (T3 G) U ∧ Nsm U ∧ va_AO "NamePlate$State" U
theorem WdI.warm {G : GG} {s U : State} (hW : s.WarmedH U.vm) (h : WdI G s) : WdI G U := ⟨va_K.moved hW.alike h.1, Nsm.warm hW h.2.1, va_AO.moved hW.alike h.2.2⟩
def MQc (G : GG) (post : va_W → Prop) (A : Nat → Prop) : Array Value → State → Outcome → State → Prop := va_Qv post (fun u t => va_P G.1 vwCl u t.heap ∧ va_D A u) A
def MK (l : Launch) (y : MethodName) (wsy : List Cond) (fr lo nc ns : Nat) (G : GG) (ws0 : va_W) (b sz : Nat) (post : va_W → Prop) : Prop := Met l y wsy ({ frames := fr, cells := nc, slots := ns, locals := lo } : Room) (va_Pc [.ref b] (fun U => U.heap.size = sz ∧ va_P G.1 vwCl ws0 U.heap ∧ WdI G U ∧ va_D (fun _ => True) ws0)) (MQc G post (va_A ws0 sz)) nc ns (va_A ws0 sz)
theorem MK.start {l : Launch} {y : MethodName} {wsy : List Cond} {fr lo nc ns : Nat} {G : GG} {ws0 : va_W} {b sz : Nat} {post : va_W → Prop} {cc : ByteArray} {maxL : Nat} {ws' : List Cond} (hy : plainName y.cls = true) (hw : wsy = Cond.code y cc maxL none :: ws') (hlen : 1 ≤ maxL) (hyn : y.name = "<init>")
    (body : ∀ (p : Program) (e : Env) (s : State) (m : MethodId) (below : List Frame) (meth : Method) (c : Code) (ls : Array Slot) (A : Nat → Prop), CallFix p m c cc maxL s [Value.ref b].toArray wsy y.cls → meth.sig.returnType = none → meth.locks = false → meth.name = "<init>" → WdI G s → va_P G.1 vwCl ws0 s.heap → va_D A ws0 → va_S A s.heap s.heap [] → (∀ q : Nat, s.heap.size ≤ q → A q) → lv_has ls maxL [(0, .ref b)] →
      W p l e ({ frames := fr, cells := nc, slots := ns, locals := lo } : Room) s m [Value.ref b].toArray below meth c s.heap [] 0 0 (MQ below (MQc G post A) [Value.ref b].toArray s nc ns A) (F0 m 0 ls [])) : MK l y wsy fr lo nc ns G ws0 b sz post := by
  refine Met.ofW hy hw ?_
  intro p e s m args below meth c s₁ B hml hv
  obtain ⟨rfl, hsz, hP, hI, hD⟩ := hv
  subst hsz
  have hown : s.vm.findClass y.cls = some m.cls := findClass_of_methodNamed B.named
  rw [lg_entry_eq]
  exact body p e s m below meth c _ _ ⟨B.exec, B.bytes, hml, hown, atoms_spec (ws := wsy) B.pre⟩ B.returns B.notSynchronized ((name_of_methodNamed B.named B.method).1.trans hyn) hI hP (hD.self (sz := s.heap.size)) va_S.rf (fun q h => Or.inr h) (lv_entry [Value.ref b] hlen)
section MKR
variable {p : Program} {l : Launch} {e : Env} {R : Room} {s : State} {m : MethodId} {args : Array Value} {below : List Frame} {meth : Method} {c : Code} {H : Heap} {locs : List Loc} {cells slots : Nat} {Q : State → Prop}
variable {cc : ByteArray} {pc nL : Nat} {ls : Array Slot} {rest st0 : List Value} {Ts wsy : List Cond} {own : String} {G : GG} {A0 : Nat → Prop} {H0 : Heap} {ws : va_W}
theorem MK.retv {post : va_W → Prop} {A : Nat → Prop} {u : va_W} {nc ns : Nat} (cx : CallFix p m c cc nL s args Ts own) (hr : meth.sig.returnType = none) (hlocks : meth.locks = false) (hd : decode cc pc = .ok (.return_, 1)) (hp : post u) (hP : va_P G.1 vwCl u H) (hD : va_D A u) (hS : va_S A s.heap H locs) : W p l e R s m args below meth c H locs nc ns (MQ below (MQc G post A) args s nc ns A) (F0 m pc ls []) :=
  W.vret cx.1 cx.2.1 hr (fun t ht _ => ⟨⟨u, rfl, hp, by rw [ht]; exact hP, hD⟩, hS.F ht⟩) hS.2.2 hd hlocks
theorem nv_obj (cx : CallFix p m c cc nL s args Ts own) {idx : Nat} (hl : (Cond.methodLink own idx Lib.objectInit) ∈ Ts) (hi : (Cond.instanceMethod Lib.objectInit) ∈ Ts) (hc : (Cond.code Lib.objectInit ⟨#[0xb1]⟩ 1 none) ∈ Ts) (hsize : ls.size = nL) {a : Addr} (hst : st0 = .ref a :: rest) (hd : decode cc pc = .ok (.invokespecial idx, 3)) (hR : 1 ≤ R.frames) (hloc : (rest.map fun v => v.category).sum + 12 ≤ R.locals)
    (kk : W p l e R s m args below meth c H locs cells slots Q (F0 m (pc + 3) ls rest)) : W p l e R s m args below meth c H locs cells slots Q (F0 m pc ls st0) :=
  W.objInit cx.1 cx.2.1 cx.2.2.2.1 (cx.2.2.2.2 _ hl) (cx.2.2.2.2 _ hi) (cx.2.2.2.2 _ hc) rfl (hsize.trans cx.2.2.1.symm) hst hd hR (by show 2 * (F0 m pc ls st0).monitorRoom + _ + 12 ≤ _; rw [show (F0 m pc ls st0).monitorRoom = 0 from rfl]; omega) kk
theorem nv_newc (cx : CallFix p m c cc nL s args Ts own) (harr : (Cond.arrayClass .char) ∈ Ts) (hK : va_K G.1 vwCl (T3 G) s) (hP : va_P G.1 vwCl ws H) (hD : va_D A0 ws) (hS : va_S A0 H0 H locs) (hA : ∀ q : Nat, H0.size ≤ q → A0 q) {N : Nat} (hN : N < 2147483648) (hb : N * componentBytes .char ≤ 536870912) (hc : cells + 1 ≤ R.cells) (hs : slots + N ≤ R.slots) (hdg : decode cc pc = .ok (.newarray .char, 2))
    (kk : ∀ (q : Nat) (H1 : Heap), va_P G.1 vwCl (ws ++ [(q, .inl (G.2.1, N, .inl (fun _ => 0)))]) H1 → va_D A0 (ws ++ [(q, .inl (G.2.1, N, .inl (fun _ => 0)))]) → va_S A0 H0 H1 locs → W p l e R s m args below meth c H1 locs (cells + 1) (slots + N) Q (F0 m (pc + 2) ls (.ref q :: rest))) : W p l e R s m args below meth c H locs cells slots Q (F0 m pc ls (.int (nI N) :: rest)) := by
  refine va_newa (atype := .char) (ty := .char) (a0 := (N, .inl (fun _ => 0))) cx.1 cx.2.1 (cx.2.2.2.2 _ harr) rfl hK hP hD hS hA (fun _ => rfl) (nI_pos hN) (nI_clamp hN) hb hc hs hdg (fun q cA H1 hK2 hP2 hD2 hS2 => ?_)
  have e := T3_eq (i := 0) hK2 rfl
  subst e
  exact kk q H1 hP2 hD2 hS2
theorem nv_newi (cx : CallFix p m c cc nL s args Ts own) (harr : (Cond.arrayClass .int) ∈ Ts) (hK : va_K G.1 vwCl (T3 G) s) (hP : va_P G.1 vwCl ws H) (hD : va_D A0 ws) (hS : va_S A0 H0 H locs) (hA : ∀ q : Nat, H0.size ≤ q → A0 q) {N : Nat} (hN : N < 2147483648) (hb : N * componentBytes .int ≤ 536870912) (hc : cells + 1 ≤ R.cells) (hs : slots + N ≤ R.slots) (hdg : decode cc pc = .ok (.newarray .int, 2))
    (kk : ∀ (q : Nat) (H1 : Heap), va_P G.1 vwCl (ws ++ [(q, .inl (G.2.2.1, N, .inl (fun _ => 0)))]) H1 → va_D A0 (ws ++ [(q, .inl (G.2.2.1, N, .inl (fun _ => 0)))]) → va_S A0 H0 H1 locs → W p l e R s m args below meth c H1 locs (cells + 1) (slots + N) Q (F0 m (pc + 2) ls (.ref q :: rest))) : W p l e R s m args below meth c H locs cells slots Q (F0 m pc ls (.int (nI N) :: rest)) := by
  refine va_newa (atype := .int) (ty := .int) (a0 := (N, .inl (fun _ => 0))) cx.1 cx.2.1 (cx.2.2.2.2 _ harr) rfl hK hP hD hS hA (fun _ => rfl) (nI_pos hN) (nI_clamp hN) hb hc hs hdg (fun q cA H1 hK2 hP2 hD2 hS2 => ?_)
  have e := T3_eq (i := 1) hK2 rfl
  subst e
  exact kk q H1 hP2 hD2 hS2
theorem nv_newq (cx : CallFix p m c cc nL s args Ts own) {idx : Nat} (hcl : (Cond.classLink own idx "NamePlate$State") ∈ Ts) (hI : WdI G s) (hP : va_P G.1 vwCl ws H) (hD : va_D A0 ws) (hS : va_S A0 H0 H locs) (hA : ∀ q : Nat, H0.size ≤ q → A0 q) {N : Nat} (hN : N < 2147483648) (hb : N * 4 ≤ 536870912) (hc : cells + 1 ≤ R.cells) (hs : slots + N ≤ R.slots) (hdg : decode cc pc = .ok (.anewarray idx, 3))
    (kk : ∀ (q : Nat) (H1 : Heap), va_P G.1 vwCl (ws ++ [(q, .inl (G.2.2.2, N, .inr (.inr (.inr (.inr (fun _ => none))))))]) H1 → va_D A0 (ws ++ [(q, .inl (G.2.2.2, N, .inr (.inr (.inr (.inr (fun _ => none))))))]) → va_S A0 H0 H1 locs → W p l e R s m args below meth c H1 locs (cells + 1) (slots + N) Q (F0 m (pc + 3) ls (.ref q :: rest))) : W p l e R s m args below meth c H locs cells slots Q (F0 m pc ls (.int (nI N) :: rest)) := by
  refine va_newq cx.1 cx.2.1 cx.2.2.2.1 (cx.2.2.2.2 _ hcl) hI.2.2 hI.1 hP hD hS hA (nI_pos hN) (nI_clamp hN) hb hc hs hdg (fun q cA H1 hK2 hP2 hD2 hS2 => ?_)
  have e := T3_eq (i := 2) hK2 rfl
  subst e
  exact kk q H1 hP2 hD2 hS2
/-- behind a constructor's call: what was beside the new cell is as it was -/
theorem MK.goes {post : va_W → Prop} {b : Nat} {e0 : va_E} {nc ns : Nat} {a : Array Value} (hr : va_Run p l e R s m args below meth c H locs cells slots nc ns (F0 m pc ls st0) rest (MQc G post (va_A [(b, e0)] H.size) a) (va_A [(b, e0)] H.size)) (hP : va_P G.1 vwCl (ws ++ [(b, e0)]) H) (hD : va_D A0 (ws ++ [(b, e0)])) (hS : va_S A0 H0 H locs) (hA : ∀ q : Nat, H0.size ≤ q → A0 q)
    (kk : ∀ (u : va_W) (H1 : Heap) (locs1 : List Loc), post u → va_P G.1 vwCl (ws ++ u) H1 → va_D A0 (ws ++ u) → va_S A0 H0 H1 locs1 → W p l e R s m args below meth c H1 locs1 (cells + nc) (slots + ns) Q (F0 m (pc + 3) ls rest)) : W p l e R s m args below meth c H locs cells slots Q (F0 m pc ls st0) := by
  have hlast : (ws ++ [(b, e0)])[ws.length]? = some (b, e0) := by simp
  have hin : ∀ (k : Nat) (q : Nat × va_E), ws[k]? = some q → (ws ++ [(b, e0)])[k]? = some q := fun k q hk => by rw [List.getElem?_append_left ((List.getElem?_eq_some_iff.mp hk).1)]; exact hk
  have hF : ∀ q, va_A [(b, e0)] H.size q → A0 q := va_free hD hS hA [ws.length] (by simp)
  have hnot : ∀ (k : Nat) (q : Nat × va_E), ws[k]? = some q → ¬ va_A [(b, e0)] H.size q.1 := fun k q hk h => by
    have hlt := (hP k q (hin k q hk)).lt
    rcases h with ⟨j, e1, hj⟩ | h
    · have hj0 : j < 1 := (List.getElem?_eq_some_iff.mp hj).1
      have hj1 : j = 0 := by omega
      subst hj1
      have e2 : q.1 = b := by
        have := Option.some.inj hj
        exact (congrArg Prod.fst this).symm
      have := hD.1 k ws.length q (b, e0) (hin k q hk) hlast e2
      have hkl := (List.getElem?_eq_some_iff.mp hk).1
      omega
    · omega
  refine va_callv hr hS (fun q _ h => hF q h) hF (fun u t H1 locs1 ht hvm hw hB hz1 hk1 hS1 => ?_)
  obtain ⟨hP1, hD1⟩ := hB
  rw [ht] at hP1
  have hPw : va_P G.1 vwCl ws H := fun k q hk => hP k q (hin k q hk)
  have hDw : va_D A0 ws := ⟨fun i j x y hi hj hxy => hD.1 i j x y (hin i x hi) (hin j y hj) hxy, fun k q hk => hD.2 k q (hin k q hk)⟩
  refine kk u H1 locs1 hw ((hPw.kept (fun k q hk => hk1 q.1 ((hPw k q hk).lt) (hnot k q hk))).app hP1) (hDw.app (hD1.weaken (fun k q hk h => hF _ h)) (fun i j x y hi hj hxy => ?_)) hS1
  have := hD1.2 j y hj
  rw [← hxy] at this
  exact hnot i x hi this
theorem MK.callN {y : MethodName} {bytes : ByteArray} {maxL index fr lo nc ns : Nat} {ws' : List Cond} {host : String} {b : Nat} {e0 : va_E} {post : va_W → Prop} (cx : CallFix p m c cc nL s args Ts own) (hM : MK l y wsy fr lo nc ns G [(b, e0)] b H.size post) (hG : GoodIn Ts wsy) (hw : wsy = Cond.code y bytes maxL none :: ws') (hl : va_Nw (.methodLinkNest own index y host) s) (hini : (Cond.initialized y.cls) ∈ Ts) (hinst : (Cond.instanceMethod y) ∈ Ts) (hyn : y.name = "<init>")
    (hd : y.cls ≠ "java/lang/invoke/MethodHandle" ∧ y.cls ≠ "java/lang/invoke/VarHandle" ∧ (parseMethodDescriptor y.desc).map (fun d => d.parameters.length) = some 0) (hR : fr + 1 ≤ R.frames ∧ 8 + (maxL + 11) + lo ≤ R.locals) (hI : WdI G s) (hP : va_P G.1 vwCl (ws ++ [(b, e0)]) H) (hD : va_D A0 (ws ++ [(b, e0)])) (hS : va_S A0 H0 H locs) (hA : ∀ q : Nat, H0.size ≤ q → A0 q) (hsize : ls.size = nL) (hst : st0 = .ref b :: rest) (hroom : (rest.map fun v => v.category).sum ≤ 8) (hdg : decode cc pc = .ok (.invokespecial index, 3)) (hcs : cells + nc ≤ R.cells ∧ slots + ns ≤ R.slots)
    (kk : ∀ (u : va_W) (H1 : Heap) (locs1 : List Loc), post u → va_P G.1 vwCl (ws ++ u) H1 → va_D A0 (ws ++ u) → va_S A0 H0 H1 locs1 → W p l e R s m args below meth c H1 locs1 (cells + nc) (slots + ns) Q (F0 m (pc + 3) ls rest)) : W p l e R s m args below meth c H locs cells slots Q (F0 m pc ls st0) := by
  have hPc : va_P G.1 vwCl [(b, e0)] H := fun k q hk => by
    have hk1 : k < 1 := (List.getElem?_eq_some_iff.mp hk).1
    refine hP (ws.length + k) q ?_
    rw [List.getElem?_append_right (by omega), Nat.add_sub_cancel_left]
    exact hk
  have hDc : va_D (fun _ => True) [(b, e0)] := ⟨fun i j x y hi hj _ => by
    have hi1 : i < 1 := (List.getElem?_eq_some_iff.mp hi).1
    have hj1 : j < 1 := (List.getElem?_eq_some_iff.mp hj).1
    omega, fun _ _ _ => trivial⟩
  exact MK.goes (va_runIN (As := []) (rest := rest) cx hM ⟨va_cnB 0 cx.2.2.2.2 hG hw rfl rfl hl (cx.2.2.2.2 _ hini) hd hR, hyn, cx.2.2.2.2 _ hinst⟩ ⟨fun a U g mk q => ⟨q.1, q.2.1, q.2.2.1, ⟨va_K.moved (u := U) (U := U.calling g mk a) (Vm.Alike.refl U.vm) q.2.2.2.1.1, Nsm.same (s := U) (U := U.calling g mk a) rfl q.2.2.2.1.2.1, va_AO.moved (u := U) (U := U.calling g mk a) (Vm.Alike.refl U.vm) q.2.2.2.1.2.2⟩, q.2.2.2.2⟩, fun U hU hW => ⟨rfl, by rw [hU], by rw [hU]; exact hPc, WdI.warm hW hI, hDc⟩⟩ rfl rfl hsize hst (lv_room hroom) hdg hcs) hP hD hS hA kk
theorem MK.callI {y : MethodName} {bytes : ByteArray} {maxL index fr lo nc ns : Nat} {ws' : List Cond} {b : Nat} {e0 : va_E} {post : va_W → Prop} (cx : CallFix p m c cc nL s args Ts own) (hM : MK l y wsy fr lo nc ns G [(b, e0)] b H.size post) (hG : GoodIn Ts wsy) (hw : wsy = Cond.code y bytes maxL none :: ws') (hl : (Cond.methodLink own index y) ∈ Ts) (hini : (Cond.initialized y.cls) ∈ Ts) (hinst : (Cond.instanceMethod y) ∈ Ts) (hyn : y.name = "<init>")
    (hd : y.cls ≠ "java/lang/invoke/MethodHandle" ∧ y.cls ≠ "java/lang/invoke/VarHandle" ∧ (parseMethodDescriptor y.desc).map (fun d => d.parameters.length) = some 0) (hR : fr + 1 ≤ R.frames ∧ 8 + (maxL + 11) + lo ≤ R.locals) (hI : WdI G s) (hP : va_P G.1 vwCl (ws ++ [(b, e0)]) H) (hD : va_D A0 (ws ++ [(b, e0)])) (hS : va_S A0 H0 H locs) (hA : ∀ q : Nat, H0.size ≤ q → A0 q) (hsize : ls.size = nL) (hst : st0 = .ref b :: rest) (hroom : (rest.map fun v => v.category).sum ≤ 8) (hdg : decode cc pc = .ok (.invokespecial index, 3)) (hcs : cells + nc ≤ R.cells ∧ slots + ns ≤ R.slots)
    (kk : ∀ (u : va_W) (H1 : Heap) (locs1 : List Loc), post u → va_P G.1 vwCl (ws ++ u) H1 → va_D A0 (ws ++ u) → va_S A0 H0 H1 locs1 → W p l e R s m args below meth c H1 locs1 (cells + nc) (slots + ns) Q (F0 m (pc + 3) ls rest)) : W p l e R s m args below meth c H locs cells slots Q (F0 m pc ls st0) := by
  have hPc : va_P G.1 vwCl [(b, e0)] H := fun k q hk => by
    have hk1 : k < 1 := (List.getElem?_eq_some_iff.mp hk).1
    refine hP (ws.length + k) q ?_
    rw [List.getElem?_append_right (by omega), Nat.add_sub_cancel_left]
    exact hk
  have hDc : va_D (fun _ => True) [(b, e0)] := ⟨fun i j x y hi hj _ => by
    have hi1 : i < 1 := (List.getElem?_eq_some_iff.mp hi).1
    have hj1 : j < 1 := (List.getElem?_eq_some_iff.mp hj).1
    omega, fun _ _ _ => trivial⟩
  exact MK.goes (va_runI (As := []) (rest := rest) cx hM (cwI 0 cx.2.2.2.2 hG hw rfl rfl (cx.2.2.2.2 _ hini) (cx.2.2.2.2 _ hl) (cx.2.2.2.2 _ hinst) hyn hd hR) ⟨fun a U g mk q => ⟨q.1, q.2.1, q.2.2.1, ⟨va_K.moved (u := U) (U := U.calling g mk a) (Vm.Alike.refl U.vm) q.2.2.2.1.1, Nsm.same (s := U) (U := U.calling g mk a) rfl q.2.2.2.1.2.1, va_AO.moved (u := U) (U := U.calling g mk a) (Vm.Alike.refl U.vm) q.2.2.2.1.2.2⟩, q.2.2.2.2⟩, fun U hU hW => ⟨rfl, by rw [hU], by rw [hU]; exact hPc, WdI.warm hW hI, hDc⟩⟩ rfl rfl hsize hst (lv_room hroom) hdg hcs) hP hD hS hA kk
end MKR
