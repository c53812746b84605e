section QROWS2
variable {p : Program} {l : Launch} {e : Env} {R : Room} {s : State} {m : MethodId} {args : Array Value} {below : List Frame} {meth : Method} {c : Code} {H : Heap} {locs : List Loc} {cells slots : Nat} {Q : State → Prop}
variable {cc : ByteArray} {pc nL : Nat} {ls : Array Slot} {rest : List Value} {D : va_G} {cA : Nat → ClassId} {A : Nat → Prop} {a : Nat} {X : Mem} {Ts : List Cond} {own : String}
theorem q_in {i n : Nat} (h : i < n) (hn : n < 2 ^ 31) : ¬ (nI i < 0 ∨ n ≤ (nI i).toNatClampNeg) := nI_in h hn
/-- arrays: read -/
theorem q_iald (hC : cx p s m args c cc nL Ts own D cA) (hG : gw D cA A X s.heap H locs) (hk : kd X a = 7) {n i : Nat} (hl : ln X a = n) (hi : i < n) (hn : n < 2 ^ 31) (hdg : decode cc pc = .ok (.iaload, 1))
    (kk : W p l e R s m args below meth c H locs cells slots Q (F0 m (pc + 1) ls (.int (nI (iv X a i)) :: rest))) : W p l e R s m args below meth c H locs cells slots Q (F0 m pc ls (.int (nI i) :: .ref a :: rest)) := by
  obtain ⟨⟨hexec, hb, -, hown, hts⟩, hK⟩ := hC
  subst hl
  have hi' : i < 2 ^ 31 := Nat.lt_trans hi hn
  exact W.iald (v := .int (nI (iv X a i))) hexec hb ((hG.1.2.1 a).2.1 hk) ((hK.2 0 _ rfl).1 _ _) (fun q => by cases q) (by rw [arrV_size]; exact q_in hi hn) (by rw [nI_clamp hi', arrV_read _ _ hi]) rfl rfl hdg kk
theorem q_zald (hC : cx p s m args c cc nL Ts own D cA) (hG : gw D cA A X s.heap H locs) (hk : kd X a = 8) {n i : Nat} (hl : ln X a = n) (hi : i < n) (hn : n < 2 ^ 31) (hdg : decode cc pc = .ok (.baload, 1))
    (kk : W p l e R s m args below meth c H locs cells slots Q (F0 m (pc + 1) ls (.int (nI (iv X a i)) :: rest))) : W p l e R s m args below meth c H locs cells slots Q (F0 m pc ls (.int (nI i) :: .ref a :: rest)) := by
  obtain ⟨⟨hexec, hb, -, hown, hts⟩, hK⟩ := hC
  subst hl
  have hi' : i < 2 ^ 31 := Nat.lt_trans hi hn
  exact W.zald (v := .int (nI (iv X a i))) hexec hb ((hG.1.2.1 a).2.2.1 hk) ((hK.2 1 _ rfl).1 _ _) (fun q => by cases q) (by rw [arrV_size]; exact q_in hi hn) (by rw [nI_clamp hi', arrV_read _ _ hi]) rfl rfl hdg kk
theorem q_aald (hC : cx p s m args c cc nL Ts own D cA) (hG : gw D cA A X s.heap H locs) (hk : kd X a = 9 ∨ kd X a = 10) {n i : Nat} (hl : ln X a = n) (hi : i < n) (hn : n < 2 ^ 31) (hdg : decode cc pc = .ok (.aaload, 1))
    (kk : W p l e R s m args below meth c H locs cells slots Q (F0 m (pc + 1) ls (va_rf (rv X a i) :: rest))) : W p l e R s m args below meth c H locs cells slots Q (F0 m pc ls (.int (nI i) :: .ref a :: rest)) := by
  obtain ⟨⟨hexec, hb, -, hown, hts⟩, hK⟩ := hC
  subst hl
  have hi' : i < 2 ^ 31 := Nat.lt_trans hi hn
  rcases hk with hk | hk
  · exact W.aald (v := va_rf (rv X a i)) (ty := .object RX0) hexec hb ((hG.1.2.1 a).2.2.2.1 hk) ((hK.2 2 _ rfl).1 _ _) rfl (fun q => by cases q) (by rw [arrV_size]; exact q_in hi hn) (by rw [nI_clamp hi', arrV_read _ _ hi]) rfl rfl hdg kk
  · exact W.aald (v := va_rf (rv X a i)) (ty := .object RX2) hexec hb ((hG.1.2.1 a).2.2.2.2.1 hk) ((hK.2 3 _ rfl).1 _ _) rfl (fun q => by cases q) (by rw [arrV_size]; exact q_in hi hn) (by rw [nI_clamp hi', arrV_read _ _ hi]) rfl rfl hdg kk
theorem q_alen (hC : cx p s m args c cc nL Ts own D cA) (hG : gw D cA A X s.heap H locs) {k : Nat} (hk : kd X a = k) (h7 : 7 ≤ k) (h10 : k ≤ 10) {n : Nat} (hl : ln X a = n) (hdg : decode cc pc = .ok (.arraylength, 1))
    (kk : W p l e R s m args below meth c H locs cells slots Q (F0 m (pc + 1) ls (.int (nI n) :: rest))) : W p l e R s m args below meth c H locs cells slots Q (F0 m pc ls (.ref a :: rest)) := by
  obtain ⟨⟨hexec, hb, -, hown, hts⟩, hK⟩ := hC
  subst hl
  have h4 : k = 7 ∨ k = 8 ∨ k = 9 ∨ k = 10 := by omega
  rcases h4 with rfl | rfl | rfl | rfl
  · exact W.alen (n := nI (ln X a)) hexec hb ((hG.1.2.1 a).2.1 hk) ((hK.2 0 _ rfl).1 _ _) (by rw [arrV_size] <;> rfl) rfl rfl hdg kk
  · exact W.alen (n := nI (ln X a)) hexec hb ((hG.1.2.1 a).2.2.1 hk) ((hK.2 1 _ rfl).1 _ _) (by rw [arrV_size] <;> rfl) rfl rfl hdg kk
  · exact W.alen (n := nI (ln X a)) hexec hb ((hG.1.2.1 a).2.2.2.1 hk) ((hK.2 2 _ rfl).1 _ _) (by rw [arrV_size] <;> rfl) rfl rfl hdg kk
  · exact W.alen (n := nI (ln X a)) hexec hb ((hG.1.2.1 a).2.2.2.2.1 hk) ((hK.2 3 _ rfl).1 _ _) (by rw [arrV_size] <;> rfl) rfl rfl hdg kk
/-- arrays: write -/
theorem ce_arr {D : va_G} {cA : Nat → ClassId} {X : Mem} {a k : Nat} {H : Heap} (hk : kd X a = k) (h7 : 7 ≤ k) (hlt : a < H.size) (h1 : k = 7 → H[a]? = some (arrV (cA 0) (ln X a) (fun j => .int (nI (iv X a j))))) (h2 : k = 8 → H[a]? = some (arrV (cA 1) (ln X a) (fun j => .int (nI (iv X a j))))) (h3 : k = 9 → H[a]? = some (arrV (cA 2) (ln X a) (fun j => va_rf (rv X a j)))) (h4 : k = 10 → H[a]? = some (arrV (cA 3) (ln X a) (fun j => va_rf (rv X a j)))) : ce D cA X a H := by
  refine ⟨fun ci r e1 e2 => ?_, fun e => h1 (by omega), fun e => h2 (by omega), fun e => h3 (by omega), fun e => h4 (by omega), fun _ => hlt⟩
  have := (List.getElem?_eq_some_iff.mp e2).1
  have : ci < 6 := this
  omega
theorem q_iast (hC : cx p s m args c cc nL Ts own D cA) (hG : gw D cA A X s.heap H locs) (hk : kd X a = 7) {n i v : Nat} (hl : ln X a = n) (hi : i < n) (hn : n < 2 ^ 31) (hdg : decode cc pc = .ok (.iastore, 1))
    (kk : ∀ (H1 : Heap) (locs1 : List Loc), gw D cA A (wI X a i v) s.heap H1 locs1 → W p l e R s m args below meth c H1 locs1 cells slots Q (F0 m (pc + 1) ls rest)) : W p l e R s m args below meth c H locs cells slots Q (F0 m pc ls (.int (nI v) :: .int (nI i) :: .ref a :: rest)) := by
  obtain ⟨⟨hexec, hb, -, hown, hts⟩, hK⟩ := hC
  subst hl
  have hi' : i < 2 ^ 31 := Nat.lt_trans hi hn
  have hAa : A a := hG.1.2.2.1 a (by rw [hk]; decide)
  have hlt := (hG.1.2.1 a).2.2.2.2.2 (by rw [hk]; decide)
  refine W.iast hexec hb ((hG.1.2.1 a).2.1 hk) ((hK.2 0 _ rfl).1 _ _) (fun q => by cases q) (by rw [arrV_size]; exact q_in hi hn) rfl rfl hdg fun H1 e z oq => ?_
  refine kk H1 _ ⟨wd_set (a := a) hG.1 rfl rfl rfl (fun b hb => up2_row _ _ hb) (fun _ _ => rfl) z oq (ce_arr (k := 7) hk (by decide) (by rw [z]; exact hlt) (fun _ => ?_) (fun h => by cases h) (fun h => by cases h) (fun h => by cases h)), hG.2.put z oq hAa⟩
  rw [e, nI_clamp hi', arrV_store]
  congr 2
  funext q
  by_cases hq : q = i
  · subst hq; simp [updV, wI, iv, up2]
  · simp [updV, wI, iv, up2, hq]
theorem q_zast (hC : cx p s m args c cc nL Ts own D cA) (hG : gw D cA A X s.heap H locs) (hk : kd X a = 8) {n i v : Nat} (hl : ln X a = n) (hi : i < n) (hn : n < 2 ^ 31) (hv : v ≤ 1) (hdg : decode cc pc = .ok (.bastore, 1))
    (kk : ∀ (H1 : Heap) (locs1 : List Loc), gw D cA A (wI X a i v) s.heap H1 locs1 → W p l e R s m args below meth c H1 locs1 cells slots Q (F0 m (pc + 1) ls rest)) : W p l e R s m args below meth c H locs cells slots Q (F0 m pc ls (.int (nI v) :: .int (nI i) :: .ref a :: rest)) := by
  obtain ⟨⟨hexec, hb, -, hown, hts⟩, hK⟩ := hC
  subst hl
  have hi' : i < 2 ^ 31 := Nat.lt_trans hi hn
  have hAa : A a := hG.1.2.2.1 a (by rw [hk]; decide)
  have hlt := (hG.1.2.1 a).2.2.2.2.2 (by rw [hk]; decide)
  refine W.zast hexec hb ((hG.1.2.1 a).2.2.1 hk) ((hK.2 1 _ rfl).1 _ _) (fun q => by cases q) (by rw [arrV_size]; exact q_in hi hn) rfl rfl hdg fun H1 e z oq => ?_
  refine kk H1 _ ⟨wd_set (a := a) hG.1 rfl rfl rfl (fun b hb => up2_row _ _ hb) (fun _ _ => rfl) z oq (ce_arr (k := 8) hk (by decide) (by rw [z]; exact hlt) (fun h => by cases h) (fun _ => ?_) (fun h => by cases h) (fun h => by cases h)), hG.2.put z oq hAa⟩
  have hnar : narrow .boolean (.int (nI v)) = .int (nI v) := by
    rcases (show v = 0 ∨ v = 1 by omega) with rfl | rfl <;> rfl
  rw [e, nI_clamp hi', arrV_store]
  congr 2
  funext q
  by_cases hq : q = i
  · subst hq; simp [updV, wI, iv, up2, hnar]
  · simp [updV, wI, iv, up2, hq]
theorem q_aast (hC : cx p s m args c cc nL Ts own D cA) (hG : gw D cA A X s.heap H locs) {n i v : Nat} (hk : (kd X a = 9 ∧ kd X v = 1) ∨ (kd X a = 10 ∧ kd X v = 3)) (hl : ln X a = n) (hi : i < n) (hn : n < 2 ^ 31) (hdg : decode cc pc = .ok (.aastore, 1))
    (kk : ∀ (H1 : Heap) (locs1 : List Loc), gw D cA A (wR X a i (some v)) s.heap H1 locs1 → W p l e R s m args below meth c H1 locs1 cells slots Q (F0 m (pc + 1) ls rest)) : W p l e R s m args below meth c H locs cells slots Q (F0 m pc ls (.ref v :: .int (nI i) :: .ref a :: rest)) := by
  obtain ⟨⟨hexec, hb, -, hown, hts⟩, hK⟩ := hC
  subst hl
  have hi' : i < 2 ^ 31 := Nat.lt_trans hi hn
  have h0 : ¬ nI i < 0 := nI_pos hi'
  rcases hk with ⟨hk, hkv⟩ | ⟨hk, hkv⟩
  · have hAa : A a := hG.1.2.2.1 a (by rw [hk]; decide)
    have hlt := (hG.1.2.1 a).2.2.2.2.2 (by rw [hk]; decide)
    obtain ⟨cellV, g1, g2, g3, -⟩ := (hG.1.2.1 v).1 0 _ hkv rfl
    have hcls := (hK.1 0 _ rfl).2
    obtain ⟨kA, comp, k1, k2, k3, -⟩ := (hK.2 2 _ rfl).2
    have hcomp : comp = D.1 0 := Option.some.inj (k3.symm.trans hcls.1)
    subst hcomp
    obtain ⟨kC, hkC, -⟩ := hcls.2
    refine W.aast hexec hb ((hG.1.2.1 a).2.2.2.1 hk) (fun q h => by cases h) (fun h => by cases h) k1 k2 rfl hkC ⟨h0, by rw [arrV_size, nI_clamp hi']; exact hi⟩ g1 (fun q h => by rw [g3] at h; cases h) (by rw [g2]; exact hkC) (by rw [g2]; exact va_assign hcls) rfl rfl hdg fun H1 e z oq => ?_
    refine kk H1 _ ⟨wd_set (a := a) hG.1 rfl rfl rfl (fun _ _ => rfl) (fun b hb => up2_row _ _ hb) z oq (ce_arr (k := 9) hk (by decide) (by rw [z]; exact hlt) (fun h => by cases h) (fun h => by cases h) (fun _ => ?_) (fun h => by cases h)), hG.2.put z oq hAa⟩
    rw [e, nI_clamp hi', arrV_store]
    congr 2
    funext q
    by_cases hq : q = i
    · subst hq; simp [updV, wR, rv, up2, va_rf]
    · simp [updV, wR, rv, up2, hq]
  · have hAa : A a := hG.1.2.2.1 a (by rw [hk]; decide)
    have hlt := (hG.1.2.1 a).2.2.2.2.2 (by rw [hk]; decide)
    obtain ⟨cellV, g1, g2, g3, -⟩ := (hG.1.2.1 v).1 2 _ hkv rfl
    have hcls := (hK.1 2 _ rfl).2
    obtain ⟨kA, comp, k1, k2, k3, -⟩ := (hK.2 3 _ rfl).2
    have hcomp : comp = D.1 2 := Option.some.inj (k3.symm.trans hcls.1)
    subst hcomp
    obtain ⟨kC, hkC, -⟩ := hcls.2
    refine W.aast hexec hb ((hG.1.2.1 a).2.2.2.2.1 hk) (fun q h => by cases h) (fun h => by cases h) k1 k2 rfl hkC ⟨h0, by rw [arrV_size, nI_clamp hi']; exact hi⟩ g1 (fun q h => by rw [g3] at h; cases h) (by rw [g2]; exact hkC) (by rw [g2]; exact va_assign hcls) rfl rfl hdg fun H1 e z oq => ?_
    refine kk H1 _ ⟨wd_set (a := a) hG.1 rfl rfl rfl (fun _ _ => rfl) (fun b hb => up2_row _ _ hb) z oq (ce_arr (k := 10) hk (by decide) (by rw [z]; exact hlt) (fun h => by cases h) (fun h => by cases h) (fun h => by cases h) (fun _ => ?_)), hG.2.put z oq hAa⟩
    rw [e, nI_clamp hi', arrV_store]
    congr 2
    funext q
    by_cases hq : q = i
    · subst hq; simp [updV, wR, rv, up2, va_rf]
    · simp [updV, wR, rv, up2, hq]
theorem q_aastN (hC : cx p s m args c cc nL Ts own D cA) (hG : gw D cA A X s.heap H locs) {n i : Nat} (hk : kd X a = 9) (hl : ln X a = n) (hi : i < n) (hn : n < 2 ^ 31) (hdg : decode cc pc = .ok (.aastore, 1))
    (kk : ∀ (H1 : Heap) (locs1 : List Loc), gw D cA A (wR X a i none) s.heap H1 locs1 → W p l e R s m args below meth c H1 locs1 cells slots Q (F0 m (pc + 1) ls rest)) : W p l e R s m args below meth c H locs cells slots Q (F0 m pc ls (.null :: .int (nI i) :: .ref a :: rest)) := by
  obtain ⟨⟨hexec, hb, -, hown, hts⟩, hK⟩ := hC
  subst hl
  have hi' : i < 2 ^ 31 := Nat.lt_trans hi hn
  have hAa : A a := hG.1.2.2.1 a (by rw [hk]; decide)
  have hlt := (hG.1.2.1 a).2.2.2.2.2 (by rw [hk]; decide)
  refine va_WaastN (C := RX0) hexec hb ((hG.1.2.1 a).2.2.2.1 hk) ((hK.2 2 _ rfl).1 _ _) (fun h => by cases h) (by rw [arrV_size]; exact q_in hi hn) rfl rfl hdg fun H1 e z oq => ?_
  refine kk H1 _ ⟨wd_set (a := a) hG.1 rfl rfl rfl (fun _ _ => rfl) (fun b hb => up2_row _ _ hb) z oq (ce_arr (k := 9) hk (by decide) (by rw [z]; exact hlt) (fun h => by cases h) (fun h => by cases h) (fun _ => ?_) (fun h => by cases h)), hG.2.put z oq hAa⟩
  rw [e, nI_clamp hi', arrV_store]
  congr 2
  funext q
  by_cases hq : q = i
  · subst hq; simp [updV, wR, rv, up2, va_rf]
  · simp [updV, wR, rv, up2, hq]
/-- new objects and arrays -/
theorem q_new (hC : cx p s m args c cc nL Ts own D cA) (hG : gw D cA A X s.heap H locs) {C : String} {T : u_T} {N ci index : Nat} {ty0 : Nat → FieldType} (hF : cF ci C T N ty0) (hin : ∀ w ∈ u_ws C T N, w ∈ Ts) (hcl : (Cond.classLink own index C).before args s = true) (hinst : (Cond.instantiable C N).before args s = true) (hini : (Cond.initialized C).before args s = true) (hcells : cells + 1 ≤ R.cells) (hslots : slots + N ≤ R.slots) (hdg : decode cc pc = .ok (.new index, 3))
    (kk : ∀ H1 : Heap, gw D cA A (nw X (ci + 1) 0) s.heap H1 locs → W p l e R s m args below meth c H1 locs (cells + 1) (slots + N) Q (F0 m (pc + 3) ls (.ref (nx X) :: rest))) : W p l e R s m args below meth c H locs cells slots Q (F0 m pc ls rest) := by
  obtain ⟨⟨hexec, hb, -, hown, hts⟩, hK⟩ := hC
  obtain ⟨hclk, hty, hnm, hdf⟩ := hF
  have hKn := hK.1 ci _ hclk
  have hz0 : H.size = nx X := hG.1.1
  refine W.newcK hexec hb hown hcl hinst hini rfl hdg hcells hslots hKn.2.1 hz0 fun H1 kC hkC e1 z1 o1 => ?_
  have z1' : H1.size = H.size + 1 := by rw [z1, hz0]
  have o1' : ∀ q : Nat, q < H.size → H1[q]? = H[q]? := fun q h => o1 q (by rw [← hz0]; exact h)
  refine kk H1 ⟨wd_new hG.1 z1' o1' ?_, va_S_new hG.2 z1' o1'⟩
  have hkk : kd (nw X (ci + 1) 0) (nx X) = ci + 1 := by simp [nw, kd, va_up]
  have hci : ci < 6 := (List.getElem?_eq_some_iff.mp hclk).1
  refine ⟨fun ci' r h1 h2 => ?_, fun h => ?_, fun h => ?_, fun h => ?_, fun h => ?_, fun _ => by rw [z1]; omega⟩
  · have : ci' = ci := by omega
    subst this
    have hr := Option.some.inj (h2.symm.trans hclk)
    subst hr
    refine (u_born ty0 hts hin hKn hkC e1 hty).to (fun j hj => ?_)
    rw [hdf j hj]
    have hi0 : iv (nw X (ci' + 1) 0) (nx X) j = 0 := by simp [nw, iv, va_up]
    have hr0 : rv (nw X (ci' + 1) 0) (nx X) j = none := by simp [nw, rv, va_up]
    simp only [fv, hi0, hr0, nI_0, va_rf]
  all_goals (rw [hkk] at h; omega)
theorem q_newa (hC : cx p s m args c cc nL Ts own D cA) (hG : gw D cA A X s.heap H locs) (n : Nat) (hn : n < 2 ^ 27) (harr : (Cond.arrayClass .int).before args s = true) (hcells : cells + 1 ≤ R.cells) (hslots : slots + n ≤ R.slots) (hdg : decode cc pc = .ok (.newarray .int, 2))
    (kk : ∀ H1 : Heap, gw D cA A (nw X 7 n) s.heap H1 locs → W p l e R s m args below meth c H1 locs (cells + 1) (slots + n) Q (F0 m (pc + 2) ls (.ref (nx X) :: rest))) : W p l e R s m args below meth c H locs cells slots Q (F0 m pc ls (.int (nI n) :: rest)) := by
  obtain ⟨⟨hexec, hb, -, hown, hts⟩, hK⟩ := hC
  have hn' : n < 2 ^ 31 := by omega
  have hz0 : H.size = nx X := hG.1.1
  refine va_newaK hexec hb (atype := .int) harr rfl hdg rfl (nI_pos hn') (nI_clamp hn') (by show n * 4 ≤ 536870912; omega) hcells hslots hz0 fun H1 cA' e1 z1 o1 hAr hNm => ?_
  have hcA : cA' = cA 0 := Option.some.inj (hNm.symm.trans (hK.2 0 _ rfl).2)
  subst hcA
  have z1' : H1.size = H.size + 1 := by rw [z1, hz0]
  have o1' : ∀ q : Nat, q < H.size → H1[q]? = H[q]? := fun q h => o1 q (by rw [← hz0]; exact h)
  refine kk H1 ⟨wd_new hG.1 z1' o1' (ce_arr (k := 7) (by simp [nw, kd, va_up]) (by decide) (by rw [z1]; omega) (fun _ => ?_) (fun h => by cases h) (fun h => by cases h) (fun h => by cases h)), va_S_new hG.2 z1' o1'⟩
  rw [e1, show ln (nw X 7 n) (nx X) = n by simp [nw, ln, va_up], show iv (nw X 7 n) (nx X) = (fun _ => 0) by simp [nw, iv, va_up]]
  rfl
theorem q_newz (hC : cx p s m args c cc nL Ts own D cA) (hG : gw D cA A X s.heap H locs) (n : Nat) (hn : n < 2 ^ 27) (harr : (Cond.arrayClass .boolean).before args s = true) (hcells : cells + 1 ≤ R.cells) (hslots : slots + n ≤ R.slots) (hdg : decode cc pc = .ok (.newarray .boolean, 2))
    (kk : ∀ H1 : Heap, gw D cA A (nw X 8 n) s.heap H1 locs → W p l e R s m args below meth c H1 locs (cells + 1) (slots + n) Q (F0 m (pc + 2) ls (.ref (nx X) :: rest))) : W p l e R s m args below meth c H locs cells slots Q (F0 m pc ls (.int (nI n) :: rest)) := by
  obtain ⟨⟨hexec, hb, -, hown, hts⟩, hK⟩ := hC
  have hn' : n < 2 ^ 31 := by omega
  have hz0 : H.size = nx X := hG.1.1
  refine va_newaK hexec hb (atype := .boolean) harr rfl hdg rfl (nI_pos hn') (nI_clamp hn') (by show n * 1 ≤ 536870912; omega) hcells hslots hz0 fun H1 cA' e1 z1 o1 hAr hNm => ?_
  have hcA : cA' = cA 1 := Option.some.inj (hNm.symm.trans (hK.2 1 _ rfl).2)
  subst hcA
  have z1' : H1.size = H.size + 1 := by rw [z1, hz0]
  have o1' : ∀ q : Nat, q < H.size → H1[q]? = H[q]? := fun q h => o1 q (by rw [← hz0]; exact h)
  refine kk H1 ⟨wd_new hG.1 z1' o1' (ce_arr (k := 8) (by simp [nw, kd, va_up]) (by decide) (by rw [z1]; omega) (fun h => by cases h) (fun _ => ?_) (fun h => by cases h) (fun h => by cases h)), va_S_new hG.2 z1' o1'⟩
  rw [e1, show ln (nw X 8 n) (nx X) = n by simp [nw, ln, va_up], show iv (nw X 8 n) (nx X) = (fun _ => 0) by simp [nw, iv, va_up]]
  rfl
theorem q_newL (hC : cx p s m args c cc nL Ts own D cA) (hG : gw D cA A X s.heap H locs) (n : Nat) (hn : n < 2 ^ 27) {index : Nat} (hcl : (Cond.classLink own index RX0).before args s = true) (hov : (Cond.arrayOver (.object RX0)).before args s = true) (hcells : cells + 1 ≤ R.cells) (hslots : slots + n ≤ R.slots) (hdg : decode cc pc = .ok (.anewarray index, 3))
    (kk : ∀ H1 : Heap, gw D cA A (nw X 9 n) s.heap H1 locs → W p l e R s m args below meth c H1 locs (cells + 1) (slots + n) Q (F0 m (pc + 3) ls (.ref (nx X) :: rest))) : W p l e R s m args below meth c H locs cells slots Q (F0 m pc ls (.int (nI n) :: rest)) := by
  obtain ⟨⟨hexec, hb, -, hown, hts⟩, hK⟩ := hC
  have hn' : n < 2 ^ 31 := by omega
  have hz0 : H.size = nx X := hG.1.1
  have hcl' : (nI n).toNatClampNeg = n := nI_clamp hn'
  refine W.anew hexec hb hown hcl hov rfl hdg rfl (nI_pos hn') (by rw [hcl']; omega) hcells (by rw [hcl']; exact hslots) fun cA' kA comp f1 f2 f3 f4 => ?_
  rw [hcl', hz0]
  obtain ⟨_, _, _, _, _, k4⟩ := (hK.2 2 _ rfl).2
  have hcA : cA' = cA 2 := Option.some.inj (f1.symm.trans k4)
  subst hcA
  generalize hH1 : H.push ({ cls := cA 2, slots := Array.replicate n .null, vm := .none } : Cell) = H1
  have z1 : H1.size = H.size + 1 := by rw [← hH1, Array.size_push]
  have e1 : H1[nx X]? = some (arrV (cA 2) n (fun _ => .null)) := by rw [← hH1, ← hz0, Array.getElem?_push_size, ← arrV_new]
  have o1 : ∀ q : Nat, q < H.size → H1[q]? = H[q]? := fun q hq => by rw [← hH1, Array.getElem?_push, if_neg (Nat.ne_of_lt hq)]
  refine kk H1 ⟨wd_new hG.1 z1 o1 (ce_arr (k := 9) (by simp [nw, kd, va_up]) (by decide) (by rw [z1]; omega) (fun h => by cases h) (fun h => by cases h) (fun _ => ?_) (fun h => by cases h)), va_S_new hG.2 z1 o1⟩
  rw [e1, show ln (nw X 9 n) (nx X) = n by simp [nw, ln, va_up], show rv (nw X 9 n) (nx X) = (fun _ => none) by simp [nw, rv, va_up]]
  rfl
theorem q_newN (hC : cx p s m args c cc nL Ts own D cA) (hG : gw D cA A X s.heap H locs) (n : Nat) (hn : n < 2 ^ 27) {index : Nat} (hcl : (Cond.classLink own index RX2).before args s = true) (hov : (Cond.arrayOver (.object RX2)).before args s = true) (hcells : cells + 1 ≤ R.cells) (hslots : slots + n ≤ R.slots) (hdg : decode cc pc = .ok (.anewarray index, 3))
    (kk : ∀ H1 : Heap, gw D cA A (nw X 10 n) s.heap H1 locs → W p l e R s m args below meth c H1 locs (cells + 1) (slots + n) Q (F0 m (pc + 3) ls (.ref (nx X) :: rest))) : W p l e R s m args below meth c H locs cells slots Q (F0 m pc ls (.int (nI n) :: rest)) := by
  obtain ⟨⟨hexec, hb, -, hown, hts⟩, hK⟩ := hC
  have hn' : n < 2 ^ 31 := by omega
  have hz0 : H.size = nx X := hG.1.1
  have hcl' : (nI n).toNatClampNeg = n := nI_clamp hn'
  refine W.anew hexec hb hown hcl hov rfl hdg rfl (nI_pos hn') (by rw [hcl']; omega) hcells (by rw [hcl']; exact hslots) fun cA' kA comp f1 f2 f3 f4 => ?_
  rw [hcl', hz0]
  obtain ⟨_, _, _, _, _, k4⟩ := (hK.2 3 _ rfl).2
  have hcA : cA' = cA 3 := Option.some.inj (f1.symm.trans k4)
  subst hcA
  generalize hH1 : H.push ({ cls := cA 3, slots := Array.replicate n .null, vm := .none } : Cell) = H1
  have z1 : H1.size = H.size + 1 := by rw [← hH1, Array.size_push]
  have e1 : H1[nx X]? = some (arrV (cA 3) n (fun _ => .null)) := by rw [← hH1, ← hz0, Array.getElem?_push_size, ← arrV_new]
  have o1 : ∀ q : Nat, q < H.size → H1[q]? = H[q]? := fun q hq => by rw [← hH1, Array.getElem?_push, if_neg (Nat.ne_of_lt hq)]
  refine kk H1 ⟨wd_new hG.1 z1 o1 (ce_arr (k := 10) (by simp [nw, kd, va_up]) (by decide) (by rw [z1]; omega) (fun h => by cases h) (fun h => by cases h) (fun h => by cases h) (fun _ => ?_)), va_S_new hG.2 z1 o1⟩
  rw [e1, show ln (nw X 10 n) (nx X) = n by simp [nw, ln, va_up], show rv (nw X 10 n) (nx X) = (fun _ => none) by simp [nw, rv, va_up]]
  rfl
end QROWS2
