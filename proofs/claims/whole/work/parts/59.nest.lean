/-! the words that the constructors need beside the printed ones: a nest mate's private constructor, arrays of letters and of nodes -/
def EW (U : State) : Prop := va_Nw (.methodLinkNest RX4 14 yX3_init RX4) U ∧ va_AO RX0 U ∧ va_AO RX2 U
theorem EW_w {s U : State} (hW : s.WarmedH U.vm) (h : EW s) : EW U := ⟨va_Nw.warmM hW h.1, va_AO.moved hW.alike h.2.1, va_AO.moved hW.alike h.2.2⟩
theorem EW_c {U : State} {g : JFrame} {mk : MethodId} {a : Array Value} (h : EW U) : EW (U.calling g mk a) := ⟨va_Nw.same (u := U) (U := U.calling g mk a) rfl rfl h.1, va_AO.moved (u := U) (U := U.calling g mk a) (Vm.Alike.refl U.vm) h.2.1, va_AO.moved (u := U) (U := U.calling g mk a) (Vm.Alike.refl U.vm) h.2.2⟩
def mtE (l : Launch) (D : va_G) (cA : Nat → ClassId) (A : Nat → Prop) (y : MethodName) (ws : List Cond) (rm : Room) (av : List Value) (X : Mem) (Q : Option Value → Mem → Prop) : Prop :=
  Met l y ws rm (fun a U => va_Pc av (gs D cA A X) a U ∧ EW U) (mQ D cA A Q) rm.cells rm.slots A
theorem q_startE {l : Launch} {D : va_G} {cA : Nat → ClassId} {A : Nat → Prop} {X : Mem} {y : MethodName} {ws ws' : List Cond} {rm : Room} {cc : ByteArray} {maxL : Nat} {ret : Option FieldType} {av : List Value} {Q : Option Value → Mem → Prop} (hy : plainName y.cls = true) (hw : ws = Cond.code y cc maxL ret :: ws') (hav : (lg_sl av).length ≤ maxL)
    (body : ∀ (p : Program) (e : Env) (s : State) (m : MethodId) (args : Array Value) (below : List Frame) (meth : Method) (c : Code) (H : Heap) (locs : List Loc), cx p s m args c cc maxL ws y.cls D cA → meth.sig.returnType = ret → meth.locks = false → meth.name = y.name → gw D cA A X s.heap H locs → EW s → ∀ ls : Array Slot, lv_has ls maxL (lv_args 0 av) → W p l e rm s m args below meth c H locs 0 0 (MQ below (mQ D cA A Q) args s rm.cells rm.slots A) (F0 m 0 ls [])) : mtE l D cA A y ws rm av X Q := by
  refine Met.ofW (cc := cc) (maxL := maxL) (ret := ret) hy hw ?_
  intro p e s m args below meth c s₁ B hml hv
  obtain ⟨⟨rfl, hP, hK⟩, hN⟩ := hv
  have hts := atoms_spec (ws := ws) B.pre
  have hown : s.vm.findClass y.cls = some m.cls := findClass_of_methodNamed B.named
  rw [lg_entry_eq]
  exact body p e s m _ below meth c s.heap [] ⟨⟨B.exec, B.bytes, hml, hown, hts⟩, hK⟩ B.returns B.notSynchronized (name_of_methodNamed B.named B.method).1 ⟨hP, va_S.rf⟩ hN _ (lv_entry av hav)
section QNEST
variable {p : Program} {l : Launch} {e : Env} {R : Room} {s : State} {m : MethodId} {args : Array Value} {below : List Frame} {meth : Method} {c : Code} {H : Heap} {locs : List Loc} {cells slots : Nat} {Q : State → Prop}
variable {cc : ByteArray} {pc nL : Nat} {ls : Array Slot} {rest : List Value} {D : va_G} {cA : Nat → ClassId} {A : Nat → Prop} {a : Nat} {X : Mem} {Ts : List Cond} {own : String}
theorem gsE_blind (av : List Value) : FrameBlind (fun a U => va_Pc av (gs D cA A X) a U ∧ EW U) := fun a U g mk q => by
  obtain ⟨⟨q0, qP, qK⟩, qN⟩ := q
  exact ⟨⟨q0, qP, va_K.moved (u := U) (U := U.calling g mk a) (Vm.Alike.refl U.vm) qK⟩, EW_c qN⟩
theorem q_callINE {y : MethodName} {ws ws' : List Cond} {rm : Room} {b : Nat} {As st0 : List Value} {Qr : Option Value → Mem → Prop} (hM : mtE l D cA A y ws rm (.ref b :: As) X Qr) (hC : cx p s m args c cc nL Ts own D cA) (hG : gw D cA A X s.heap H locs) (hE : EW s) {index maxL : Nat} {bytes : ByteArray} {host : String} (n : Nat)
    (hT : GoodIn Ts ws) (hw : ws = Cond.code y bytes maxL none :: ws') (hini : (Cond.initialized y.cls).before args s = true) (hl : va_Nw (.methodLinkNest own index y host) s) (hin : (Cond.instanceMethod y).before args s = true) (hy1 : y.name = "<init>") (hd : y.cls ≠ "java/lang/invoke/MethodHandle" ∧ y.cls ≠ "java/lang/invoke/VarHandle" ∧ (parseMethodDescriptor y.desc).map (fun d => d.parameters.length) = some n) (hR : rm.frames + 1 ≤ R.frames ∧ 8 + (maxL + 11) + rm.locals ≤ R.locals)
    (hn : As.length = n) (hsz : ls.size = nL) (hst : st0 = As.reverse ++ .ref b :: rest) (hW : (rest.map fun v => v.category).sum ≤ 8) (hdg : decode cc pc = .ok (.invokespecial index, 3)) (hf : cells + rm.cells ≤ R.cells ∧ slots + rm.slots ≤ R.slots)
    (kk : ∀ (v : Option Value) (X' : Mem) (H1 : Heap) (locs1 : List Loc), Qr v X' → gw D cA A X' s.heap H1 locs1 → W p l e R s m args below meth c H1 locs1 (cells + rm.cells) (slots + rm.slots) Q (F0 m (pc + 3) ls (v.toList ++ rest))) : W p l e R s m args below meth c H locs cells slots Q (F0 m pc ls st0) :=
  q_after (va_runIN (As := As) (rest := rest) hC.1 hM ⟨va_cnB n hC.1.2.2.2.2 hT hw rfl rfl hl hini hd hR, hy1, hin⟩ ⟨gsE_blind _, fun U hU hW => ⟨gs_of hC hG _ U hU hW, EW_w hW hE⟩⟩ rfl hn hsz hst (lv_room hW) hdg hf) hG kk
theorem q_callIE {y : MethodName} {ws ws' : List Cond} {rm : Room} {b : Nat} {As st0 : List Value} {Qr : Option Value → Mem → Prop} (hM : mtE l D cA A y ws rm (.ref b :: As) X Qr) (hC : cx p s m args c cc nL Ts own D cA) (hG : gw D cA A X s.heap H locs) (hE : EW s) {index maxL : Nat} {bytes : ByteArray} (n : Nat)
    (hT : GoodIn Ts ws) (hw : ws = Cond.code y bytes maxL none :: ws') (hini : (Cond.initialized y.cls).before args s = true) (hl : (Cond.methodLink own index y).before args s = true) (hin : (Cond.instanceMethod y).before args s = true) (hy1 : y.name = "<init>") (hd : y.cls ≠ "java/lang/invoke/MethodHandle" ∧ y.cls ≠ "java/lang/invoke/VarHandle" ∧ (parseMethodDescriptor y.desc).map (fun d => d.parameters.length) = some n) (hR : rm.frames + 1 ≤ R.frames ∧ 8 + (maxL + 11) + rm.locals ≤ R.locals)
    (hn : As.length = n) (hsz : ls.size = nL) (hst : st0 = As.reverse ++ .ref b :: rest) (hW : (rest.map fun v => v.category).sum ≤ 8) (hdg : decode cc pc = .ok (.invokespecial index, 3)) (hf : cells + rm.cells ≤ R.cells ∧ slots + rm.slots ≤ R.slots)
    (kk : ∀ (v : Option Value) (X' : Mem) (H1 : Heap) (locs1 : List Loc), Qr v X' → gw D cA A X' s.heap H1 locs1 → W p l e R s m args below meth c H1 locs1 (cells + rm.cells) (slots + rm.slots) Q (F0 m (pc + 3) ls (v.toList ++ rest))) : W p l e R s m args below meth c H locs cells slots Q (F0 m pc ls st0) :=
  q_after (va_runI (As := As) (rest := rest) hC.1 hM (cwI n hC.1.2.2.2.2 hT hw rfl rfl hini hl hin hy1 hd hR) ⟨gsE_blind _, fun U hU hW => ⟨gs_of hC hG _ U hU hW, EW_w hW hE⟩⟩ rfl hn hsz hst (lv_room hW) hdg hf) hG kk
end QNEST
