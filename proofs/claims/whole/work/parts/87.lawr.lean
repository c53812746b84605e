/-! rows of the law: its script, its first cell, two equal longs -/
def mtS (l : Launch) (D : va_G) (cA : Nat → ClassId) (A : Nat → Prop) (b0 L : Nat) (xs : Nat → Int32) (y : MethodName) (ws : List Cond) (rm : Room) (av : List Value) (X : Mem) (Q : Option Value → Mem → Prop) : Prop :=
  Met l y ws rm (fun a U => va_Pc av (gs D cA A X) a U ∧ (va_X b0 L xs U U.heap ∧ b0 < U.heap.size)) (mQ D cA A Q) rm.cells rm.slots A
theorem q_startS {l : Launch} {D : va_G} {cA : Nat → ClassId} {A : Nat → Prop} {b0 L : Nat} {xs : Nat → Int32} {X : Mem} {y : MethodName} {ws ws' : List Cond} {rm : Room} {cc : ByteArray} {maxL : Nat} {ret : Option FieldType} {av : List Value} {Q : Option Value → Mem → Prop} (hy : plainName y.cls = true) (hw : ws = Cond.code y cc maxL ret :: ws') (hav : (lg_sl av).length ≤ maxL)
    (body : ∀ (p : Program) (e : Env) (s : State) (m : MethodId) (args : Array Value) (below : List Frame) (meth : Method) (c : Code) (H : Heap) (locs : List Loc), cx p s m args c cc maxL ws y.cls D cA → meth.sig.returnType = ret → meth.locks = false → meth.name = y.name → gw D cA A X s.heap H locs → (va_X b0 L xs s s.heap ∧ b0 < s.heap.size) → ∀ ls : Array Slot, lv_has ls maxL (lv_args 0 av) → W p l e rm s m args below meth c H locs 0 0 (MQ below (mQ D cA A Q) args s rm.cells rm.slots A) (F0 m 0 ls [])) : mtS l D cA A b0 L xs y ws rm av X Q := by
  refine Met.ofW (cc := cc) (maxL := maxL) (ret := ret) hy hw ?_
  intro p e s m args below meth c s₁ B hml hv
  obtain ⟨⟨rfl, hP, hK⟩, hN⟩ := hv
  have hts := atoms_spec (ws := ws) B.pre
  have hown : s.vm.findClass y.cls = some m.cls := findClass_of_methodNamed B.named
  rw [lg_entry_eq]
  exact body p e s m _ below meth c s.heap [] ⟨⟨B.exec, B.bytes, hml, hown, hts⟩, hK⟩ B.returns B.notSynchronized (name_of_methodNamed B.named B.method).1 ⟨hP, va_S.rf⟩ hN _ (lv_entry av hav)
section QLAW
variable {p : Program} {l : Launch} {e : Env} {R : Room} {s : State} {m : MethodId} {args : Array Value} {below : List Frame} {meth : Method} {c : Code} {H : Heap} {locs : List Loc} {cells slots : Nat} {Q : State → Prop}
variable {cc : ByteArray} {pc nL : Nat} {ls : Array Slot} {rest : List Value} {D : va_G} {cA : Nat → ClassId} {A : Nat → Prop} {a : Nat} {X : Mem} {Ts : List Cond} {own : String}
theorem q_callSS {b0 L : Nat} {xs : Nat → Int32} {y : MethodName} {ws ws' : List Cond} {rm : Room} {As st0 : List Value} {Qr : Option Value → Mem → Prop} (hM : mtS l D cA A b0 L xs y ws rm As X Qr) (hC : cx p s m args c cc nL Ts own D cA) (hG : gw D cA A X s.heap H locs) (hX : va_X b0 L xs s s.heap) (hbl : b0 < s.heap.size) (hbA : ¬ A b0) {index maxL : Nat} {bytes : ByteArray} {ret : Option FieldType} (n : Nat)
    (hT : GoodIn Ts (va_wsS own index y ws)) (hw : ws = Cond.code y bytes maxL ret :: ws') (hd : y.cls ≠ "java/lang/invoke/MethodHandle" ∧ y.cls ≠ "java/lang/invoke/VarHandle" ∧ (parseMethodDescriptor y.desc).map (fun d => d.parameters.length) = some n) (hR : rm.frames + 1 ≤ R.frames ∧ 8 + (maxL + 11) + rm.locals ≤ R.locals)
    (hn : As.length = n) (hsz : ls.size = nL) (hst : st0 = As.reverse ++ rest) (hW : (rest.map fun v => v.category).sum ≤ 8) (hdg : decode cc pc = .ok (.invokestatic index, 3)) (hf : cells + rm.cells ≤ R.cells ∧ slots + rm.slots ≤ R.slots)
    (kk : ∀ (v : Option Value) (X' : Mem) (H1 : Heap) (locs1 : List Loc), Qr v X' → gw D cA A X' s.heap H1 locs1 → W p l e R s m args below meth c H1 locs1 (cells + rm.cells) (slots + rm.slots) Q (F0 m (pc + 3) ls (v.toList ++ rest))) : W p l e R s m args below meth c H locs cells slots Q (F0 m pc ls st0) :=
  q_after (va_runS (As := As) (rest := rest) hC.1 hM (va_cwS n hC.1.2.2.2.2 hT hw rfl rfl hd hR)
    ⟨fun a U g mk q => ⟨⟨q.1.1, q.1.2.1, va_K.moved (u := U) (U := U.calling g mk a) (Vm.Alike.refl U.vm) q.1.2.2⟩, va_X.moved (u := U) (U := U.calling g mk a) (Vm.Alike.refl U.vm) q.2.1, q.2.2⟩,
      fun U hU hW => ⟨gs_of hC hG _ U hU hW, by rw [hU]; exact (va_X.moved hW.alike hX).kept (hG.2.2.1 b0 hbl hbA), by rw [hU]; exact Nat.lt_of_lt_of_le hbl hG.2.1⟩⟩ rfl hn hsz hst (lv_room hW) hdg hf) hG kk
theorem q_lcmpE (hC : cx p s m args c cc nL Ts own D cA) {x : Int64} (hdg : decode cc pc = .ok (.lcmp, 1)) (k : W p l e R s m args below meth c H locs cells slots Q (F0 m (pc + 1) ls (.int 0 :: rest))) : W p l e R s m args below meth c H locs cells slots Q (F0 m pc ls (.long x :: .long x :: rest)) := by
  have hexec := hC.1.1
  have hb := hC.1.2.1
  intro T hT X
  obtain ⟨t, a, b⟩ := k T hT X
  refine ⟨t, ?_, b⟩
  jvm_step X.here [X.here.top, hexec, hb, hdg]
  exact a
/-- an int of the script -/
theorem q_scr (hC : cx p s m args c cc nL Ts own D cA) {b0 L : Nat} {xs : Nat → Int32} (hX : va_X b0 L xs s s.heap) (hbl : b0 < s.heap.size) (hbA : ¬ A b0) (hG : gw D cA A X s.heap H locs) {i : Nat} (hi : i < L) (hL : L < 2147483648) (hdg : decode cc pc = .ok (.iaload, 1))
    (kk : W p l e R s m args below meth c H locs cells slots Q (F0 m (pc + 1) ls (.int (xs i) :: rest))) : W p l e R s m args below meth c H locs cells slots Q (F0 m pc ls (.int (nI i) :: .ref b0 :: rest)) := by
  have hcl : (nI i).toNatClampNeg = i := nI_clamp (by omega)
  refine va_sld hC.1.1 hC.1.2.1 hX hbl hbA hG.2 (i := nI i) (fun z => ?_) hdg (by rw [hcl]; exact kk)
  rcases z with z | z
  · exact nI_pos (by omega) z
  · rw [hcl] at z; omega
end QLAW
/-- the law's loop goes on only where eight ints are left -/
theorem law_len {L j : Nat} (hL : L ≤ 4097) (hj : j < 2147483648) (h : ¬ nI L - nI 8 < nI j) : j + 8 ≤ L := by
  apply Classical.byContradiction
  intro hc
  apply h
  by_cases h8 : 8 ≤ L
  · rw [pk_sub h8]
    exact nI_lt (by omega) hj
  · have hn : ∀ q, q < 8 → nI q - nI 8 < 0 := by decide
    have h1 := hn L (by omega)
    apply Int32.lt_iff_toInt_lt.mpr
    have h2 : (nI L - nI 8).toInt < (0 : Int32).toInt := Int32.lt_iff_toInt_lt.mp h1
    have e0 : (0 : Int32).toInt = 0 := by decide
    rw [nI_toInt (by omega)]; omega
/-- what the tables say of arrays -/
theorem kn_arr {s : State} {args : Array Value} {ty : FieldType} (hty : ty = .int ∨ ty = .boolean) (h : (Cond.arrayClass ty).before args s = true) : ∃ cA : ClassId, ArrOfT s cA ty ∧ va_RA s cA ty := by
  obtain ⟨cA, kA, comp, hfind, hk, hkind⟩ := Cond.arrayClass_spec h
  rcases hty with rfl | rfl
  · exact ⟨cA, fun n z => ⟨fun k h => (by cases h), kA, hk, comp, hkind⟩, hfind⟩
  · exact ⟨cA, fun n z => ⟨fun k h => (by cases h), kA, hk, comp, hkind⟩, hfind⟩
theorem kn_obj {s : State} {args : Array Value} {C : String} (h : (Cond.arrayOver (.object C)).before args s = true) : ∃ cA : ClassId, ArrOfT s cA (.object C) ∧ va_RA s cA (.object C) := by
  obtain ⟨comp, cA, kA, h1, h2, h3, h4, h5⟩ := Cond.arrayOver_spec h
  exact ⟨cA, fun n z => ⟨fun k h => (by cases h), kA, h3, comp, h4⟩, kA, comp, h3, h4, h1, h5⟩
/-- the memory at the law's start -/
def X00 (k : Nat) : Mem := (k, fun _ => 0, fun _ => 0, fun _ _ => 0, fun _ _ => none)
theorem X00_kd (k a : Nat) : kd (X00 k) a = 0 := rfl
theorem gw_0 (D : va_G) (cA : Nat → ClassId) (H : Heap) : gw D cA (fun q : Nat => H.size ≤ q) (X00 H.size) H H [] := by
  refine ⟨⟨rfl, fun a => ⟨fun ci r h _ => ?_, fun h => ?_, fun h => ?_, fun h => ?_, fun h => ?_, fun h => ?_⟩, fun a h => ?_, fun q h => h⟩, va_S.rf⟩
  · rw [X00_kd] at h; omega
  · rw [X00_kd] at h; omega
  · rw [X00_kd] at h; omega
  · rw [X00_kd] at h; omega
  · rw [X00_kd] at h; omega
  · exact absurd (X00_kd _ _) h
  · exact absurd (X00_kd _ _) h
