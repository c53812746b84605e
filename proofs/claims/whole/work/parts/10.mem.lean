/-! MEMORY: the cells made since the law's start, as functions of their addresses: how many addresses are used, the kind of each, an array's length, int slots (as naturals n, the int being nI n), reference slots -/
abbrev Mem : Type := Nat × (Nat → Nat) × (Nat → Nat) × (Nat → Nat → Nat) × (Nat → Nat → Option Nat)
def nx (X : Mem) : Nat := X.1
def kd (X : Mem) : Nat → Nat := X.2.1
def ln (X : Mem) : Nat → Nat := X.2.2.1
def iv (X : Mem) : Nat → Nat → Nat := X.2.2.2.1
def rv (X : Mem) : Nat → Nat → Option Nat := X.2.2.2.2
def up2 {α : Type} (f : Nat → Nat → α) (a k : Nat) (v : α) : Nat → Nat → α := fun b j => if b = a ∧ j = k then v else f b j
def wI (X : Mem) (a k v : Nat) : Mem := (nx X, kd X, ln X, up2 (iv X) a k v, rv X)
def wR (X : Mem) (a k : Nat) (v : Option Nat) : Mem := (nx X, kd X, ln X, iv X, up2 (rv X) a k v)
def nw (X : Mem) (k n : Nat) : Mem := (nx X + 1, va_up (kd X) (nx X) k, va_up (ln X) (nx X) n, va_up (iv X) (nx X) (fun _ => 0), va_up (rv X) (nx X) (fun _ => none))
theorem up2_self {α : Type} (f : Nat → Nat → α) (a k : Nat) (v : α) : up2 f a k v a k = v := by simp [up2]
theorem up2_ne {α : Type} (f : Nat → Nat → α) {a k b j : Nat} (v : α) (h : ¬ (b = a ∧ j = k)) : up2 f a k v b j = f b j := by simp only [up2, if_neg h]
theorem up2_row {α : Type} (f : Nat → Nat → α) {a k b : Nat} (v : α) (h : b ≠ a) : up2 f a k v b = f b := by funext j; simp [up2, h]
/-- which fields are references (classes by their numbers) -/
def rf (ci k : Nat) : Bool := match ci with
  | 0 => k == 6
  | 1 => true
  | 2 => (Nat.ble 3 k && Nat.ble k 8) || k == 12
  | 3 => k == 0
  | 4 => true
  | _ => !(k == 0 || k == 1 || k == 17 || k == 18)
def fv (X : Mem) (a ci k : Nat) : Value := if rf ci k = true then va_rf (rv X a k) else .int (nI (iv X a k))
/-- what a cell holds: kinds 1 .. 6 the classes 0 .. 5, 7 int[], 8 boolean[], 9 Letter[], 10 Node[] -/
def ce (D : va_G) (cA : Nat → ClassId) (X : Mem) (a : Nat) (H : Heap) : Prop :=
  (∀ (ci : Nat) (r : vw_C), kd X a = ci + 1 → vwCl[ci]? = some r → t_OB a (D.1 ci) r.2.2 (D.2 ci) H (fv X a ci)) ∧
  (kd X a = 7 → H[a]? = some (arrV (cA 0) (ln X a) (fun j => .int (nI (iv X a j))))) ∧
  (kd X a = 8 → H[a]? = some (arrV (cA 1) (ln X a) (fun j => .int (nI (iv X a j))))) ∧
  (kd X a = 9 → H[a]? = some (arrV (cA 2) (ln X a) (fun j => va_rf (rv X a j)))) ∧
  (kd X a = 10 → H[a]? = some (arrV (cA 3) (ln X a) (fun j => va_rf (rv X a j)))) ∧
  (kd X a ≠ 0 → a < H.size)
abbrev tyL (cA : Nat → ClassId) : List (ClassId × FieldType) := [(cA 0, .int), (cA 1, .boolean), (cA 2, .object RX0), (cA 3, .object RX2)]
def wd (D : va_G) (cA : Nat → ClassId) (A : Nat → Prop) (X : Mem) (H : Heap) : Prop := H.size = nx X ∧ (∀ a : Nat, ce D cA X a H) ∧ (∀ a : Nat, kd X a ≠ 0 → A a) ∧ ∀ q : Nat, nx X ≤ q → A q
def gw (D : va_G) (cA : Nat → ClassId) (A : Nat → Prop) (X : Mem) (H0 H : Heap) (locs : List Loc) : Prop := wd D cA A X H ∧ va_S A H0 H locs
def gs (D : va_G) (cA : Nat → ClassId) (A : Nat → Prop) (X : Mem) (U : State) : Prop := wd D cA A X U.heap ∧ va_K D vwCl (tyL cA) U
def cx (p : Program) (s : State) (m : MethodId) (args : Array Value) (c : Code) (cc : ByteArray) (nL : Nat) (Ts : List Cond) (own : String) (D : va_G) (cA : Nat → ClassId) : Prop := CallFix p m c cc nL s args Ts own ∧ va_K D vwCl (tyL cA) s
def mQ (D : va_G) (cA : Nat → ClassId) (A : Nat → Prop) (Q : Option Value → Mem → Prop) : Array Value → State → Outcome → State → Prop := fun _ st oc t => ∃ (v : Option Value) (X : Mem), oc = .returned v ∧ Q v X ∧ gs D cA A X t ∧ va_F A st t
/-- A CONTRACT: from the memory X and these arguments the method returns; its answer and the memory behind it hold Q -/
def mt (l : Launch) (D : va_G) (cA : Nat → ClassId) (A : Nat → Prop) (y : MethodName) (ws : List Cond) (rm : Room) (av : List Value) (X : Mem) (Q : Option Value → Mem → Prop) : Prop :=
  Met l y ws rm (va_Pc av (gs D cA A X)) (mQ D cA A Q) rm.cells rm.slots A
theorem ce_keep {D : va_G} {cA : Nat → ClassId} {X X' : Mem} {b : Nat} {H H' : Heap} (h : ce D cA X b H) (h1 : kd X' b = kd X b) (h2 : ln X' b = ln X b) (h3 : iv X' b = iv X b) (h4 : rv X' b = rv X b) (hH : H'[b]? = H[b]?) (hs : H.size ≤ H'.size) : ce D cA X' b H' := by
  obtain ⟨a1, a2, a3, a4, a5, a6⟩ := h
  refine ⟨fun ci r e1 e2 => ?_, fun e => ?_, fun e => ?_, fun e => ?_, fun e => ?_, fun e => ?_⟩
  · rw [h1] at e1
    refine ((a1 ci r e1 e2).kept hH).to (fun k _ => ?_)
    simp only [fv, h3, h4]
  · rw [h1] at e; rw [hH, h2, h3]; exact a2 e
  · rw [h1] at e; rw [hH, h2, h3]; exact a3 e
  · rw [h1] at e; rw [hH, h2, h4]; exact a4 e
  · rw [h1] at e; rw [hH, h2, h4]; exact a5 e
  · rw [h1] at e; exact Nat.lt_of_lt_of_le (a6 e) hs
theorem wd_set {D : va_G} {cA : Nat → ClassId} {A : Nat → Prop} {X X' : Mem} {a : Nat} {H H1 : Heap} (h : wd D cA A X H) (h1 : nx X' = nx X) (h2 : kd X' = kd X) (h3 : ln X' = ln X) (h4 : ∀ b, b ≠ a → iv X' b = iv X b) (h5 : ∀ b, b ≠ a → rv X' b = rv X b) (hz : H1.size = H.size) (oq : ∀ q : Nat, q ≠ a → H1[q]? = H[q]?) (hnew : ce D cA X' a H1) : wd D cA A X' H1 := by
  obtain ⟨g1, g2, g3, g4⟩ := h
  refine ⟨by rw [hz, g1, h1], fun b => ?_, fun b hb => g3 b (by rw [← h2]; exact hb), fun q hq => g4 q (by rw [← h1]; exact hq)⟩
  by_cases hb : b = a
  · subst hb; exact hnew
  · exact ce_keep (g2 b) (by rw [h2]) (by rw [h3]) (h4 b hb) (h5 b hb) (oq b hb) (by rw [hz]; exact Nat.le_refl _)
theorem wd_lt {D : va_G} {cA : Nat → ClassId} {A : Nat → Prop} {X : Mem} {H : Heap} (h : wd D cA A X H) {a : Nat} (ha : kd X a ≠ 0) : a < nx X := by
  rw [← h.1]; exact (h.2.1 a).2.2.2.2.2 ha
theorem wd_new {D : va_G} {cA : Nat → ClassId} {A : Nat → Prop} {X : Mem} {k n : Nat} {H H1 : Heap} (h : wd D cA A X H) (hz : H1.size = H.size + 1) (oq : ∀ q : Nat, q < H.size → H1[q]? = H[q]?) (hnew : ce D cA (nw X k n) (nx X) H1) : wd D cA A (nw X k n) H1 := by
  obtain ⟨g1, g2, g3, g4⟩ := h
  refine ⟨by rw [hz, g1]; rfl, fun b => ?_, fun b hb => ?_, fun q hq => g4 q (Nat.le_of_succ_le hq)⟩
  · by_cases hb : b = nx X
    · subst hb; exact hnew
    · have hkb : kd (nw X k n) b = kd X b := by simp [nw, kd, va_up, hb]
      by_cases h0 : kd X b = 0
      · have h0' : kd (nw X k n) b = 0 := by rw [hkb, h0]
        refine ⟨fun ci r e _ => ?_, fun e => ?_, fun e => ?_, fun e => ?_, fun e => ?_, fun e => absurd h0' e⟩ <;> (rw [h0'] at e; cases e)
      · have hlt : b < H.size := (g2 b).2.2.2.2.2 h0
        exact ce_keep (g2 b) hkb (by simp [nw, ln, va_up, hb]) (by simp [nw, iv, va_up, hb]) (by simp [nw, rv, va_up, hb]) (oq b hlt) (by omega)
  · by_cases hb2 : b = nx X
    · exact g4 b (by rw [hb2]; exact Nat.le_refl _)
    · exact g3 b (fun z => hb (by rw [show kd (nw X k n) b = kd X b by simp [nw, kd, va_up, hb2]]; exact z))
theorem va_S_new {A : Nat → Prop} {H0 H H1 : Heap} {locs : List Loc} (h : va_S A H0 H locs) (hz : H1.size = H.size + 1) (oq : ∀ q : Nat, q < H.size → H1[q]? = H[q]?) : va_S A H0 H1 locs :=
  ⟨Nat.le_trans h.1 (by omega), fun x h1 h2 => (oq x (Nat.lt_of_lt_of_le h1 h.1)).trans (h.2.1 x h1 h2), h.2.2⟩
/-- a class: its number, name, fields, their types -/
def cF (ci : Nat) (C : String) (T : u_T) (N : Nat) (ty0 : Nat → FieldType) : Prop := vwCl[ci]? = some (C, T, N) ∧ (∀ k, k < N → parseFieldDescriptor (T k).2.2.1 = some (ty0 k)) ∧ (∀ a, a < N → ∀ b, b < N → a ≠ b → (T a).2.1 ≠ (T b).2.1) ∧ (∀ j, j < N → defaultValue (ty0 j) = if rf ci j = true then .null else .int 0)
theorem cF0 : cF 0 RX0 TX0 8 tyX0 := ⟨rfl, tyX0_ok, nmX0, by intro j hj; match j, hj with | 0, _ => rfl | 1, _ => rfl | 2, _ => rfl | 3, _ => rfl | 4, _ => rfl | 5, _ => rfl | 6, _ => rfl | 7, _ => rfl⟩
theorem cF1 : cF 1 RX1 TX1 1 tyX1 := ⟨rfl, tyX1_ok, nmX1, by intro j hj; match j, hj with | 0, _ => rfl⟩
theorem cF2 : cF 2 RX2 TX2 17 tyX2 := ⟨rfl, tyX2_ok, nmX2, by intro j hj; match j, hj with | 0, _ => rfl | 1, _ => rfl | 2, _ => rfl | 3, _ => rfl | 4, _ => rfl | 5, _ => rfl | 6, _ => rfl | 7, _ => rfl | 8, _ => rfl | 9, _ => rfl | 10, _ => rfl | 11, _ => rfl | 12, _ => rfl | 13, _ => rfl | 14, _ => rfl | 15, _ => rfl | 16, _ => rfl | k + 17, h => exact absurd h (by omega)⟩
theorem cF3 : cF 3 RX3 TX3 3 tyX3 := ⟨rfl, tyX3_ok, nmX3, by intro j hj; match j, hj with | 0, _ => rfl | 1, _ => rfl | 2, _ => rfl⟩
theorem cF4 : cF 4 RX4 TX4 3 tyX4 := ⟨rfl, tyX4_ok, nmX4, by intro j hj; match j, hj with | 0, _ => rfl | 1, _ => rfl | 2, _ => rfl⟩
theorem cF5 : cF 5 RX5 TX5 26 tyX5 := ⟨rfl, tyX5_ok, nmX5, by intro j hj; match j, hj with | 0, _ => rfl | 1, _ => rfl | 2, _ => rfl | 3, _ => rfl | 4, _ => rfl | 5, _ => rfl | 6, _ => rfl | 7, _ => rfl | 8, _ => rfl | 9, _ => rfl | 10, _ => rfl | 11, _ => rfl | 12, _ => rfl | 13, _ => rfl | 14, _ => rfl | 15, _ => rfl | 16, _ => rfl | 17, _ => rfl | 18, _ => rfl | 19, _ => rfl | 20, _ => rfl | 21, _ => rfl | 22, _ => rfl | 23, _ => rfl | 24, _ => rfl | 25, _ => rfl | k + 26, h => exact absurd h (by omega)⟩
section QROWS
variable {p : Program} {l : Launch} {e : Env} {R : Room} {s : State} {m : MethodId} {args : Array Value} {below : List Frame} {meth : Method} {c : Code} {H : Heap} {locs : List Loc} {cells slots : Nat} {Q : State → Prop}
variable {cc : ByteArray} {pc nL : Nat} {ls : Array Slot} {rest : List Value} {D : va_G} {cA : Nat → ClassId} {A : Nat → Prop} {a : Nat} {X : Mem} {Ts : List Cond} {own : String}
theorem q_getv (hC : cx p s m args c cc nL Ts own D cA) (hG : gw D cA A X s.heap H locs) {C : String} {T : u_T} {N ci index : Nat} {ty0 : Nat → FieldType} (hF : cF ci C T N ty0) (hin : ∀ w ∈ u_ws C T N, w ∈ Ts) (hk : kd X a = ci + 1) (k : Nat) (hkN : k < N) (hlink : (Cond.fieldLink own index (T k).1 (T k).2.1 (T k).2.2.1).before args s = true) (hdg : decode cc pc = .ok (.getfield index, 3))
    (kk : W p l e R s m args below meth c H locs cells slots Q (F0 m (pc + 3) ls (fv X a ci k :: rest))) : W p l e R s m args below meth c H locs cells slots Q (F0 m pc ls (.ref a :: rest)) := by
  obtain ⟨⟨hexec, hb, -, hown, hts⟩, hK⟩ := hC
  obtain ⟨hcl, -, -, -⟩ := hF
  obtain ⟨cell, q1, q2, q3, q4⟩ := (hG.1.2.1 a).1 ci _ hk hcl
  obtain ⟨hS, hfc, kC, hkC, hkind⟩ := hK.1 ci _ hcl
  obtain ⟨cf, kf, fi, f, hi, hsl⟩ := hS k hkN
  refine W.getf hexec hb hown hlink hi (u_facts hfc hkC (u_lays hts hin hkN) hi).1 q1 (by rw [q3]; exact fun h => by cases h) (v := fv X a ci k) ?_ rfl rfl hdg kk
  rw [hsl, q4 k hkN]
theorem q_geti (hC : cx p s m args c cc nL Ts own D cA) (hG : gw D cA A X s.heap H locs) {C : String} {T : u_T} {N ci index : Nat} {ty0 : Nat → FieldType} (hF : cF ci C T N ty0) (hin : ∀ w ∈ u_ws C T N, w ∈ Ts) (hk : kd X a = ci + 1) (k : Nat) (hkN : k < N) (hr : rf ci k = false) (hlink : (Cond.fieldLink own index (T k).1 (T k).2.1 (T k).2.2.1).before args s = true) (hdg : decode cc pc = .ok (.getfield index, 3))
    (kk : W p l e R s m args below meth c H locs cells slots Q (F0 m (pc + 3) ls (.int (nI (iv X a k)) :: rest))) : W p l e R s m args below meth c H locs cells slots Q (F0 m pc ls (.ref a :: rest)) :=
  q_getv hC hG hF hin hk k hkN hlink hdg (by rw [show fv X a ci k = .int (nI (iv X a k)) by simp [fv, hr]]; exact kk)
theorem q_getr (hC : cx p s m args c cc nL Ts own D cA) (hG : gw D cA A X s.heap H locs) {C : String} {T : u_T} {N ci index : Nat} {ty0 : Nat → FieldType} (hF : cF ci C T N ty0) (hin : ∀ w ∈ u_ws C T N, w ∈ Ts) (hk : kd X a = ci + 1) (k : Nat) (hkN : k < N) (hr : rf ci k = true) {b : Nat} (hb : rv X a k = some b) (hlink : (Cond.fieldLink own index (T k).1 (T k).2.1 (T k).2.2.1).before args s = true) (hdg : decode cc pc = .ok (.getfield index, 3))
    (kk : W p l e R s m args below meth c H locs cells slots Q (F0 m (pc + 3) ls (.ref b :: rest))) : W p l e R s m args below meth c H locs cells slots Q (F0 m pc ls (.ref a :: rest)) :=
  q_getv hC hG hF hin hk k hkN hlink hdg (by rw [show fv X a ci k = .ref b by simp [fv, hr, hb, va_rf]]; exact kk)
theorem q_putX (hC : cx p s m args c cc nL Ts own D cA) (hG : gw D cA A X s.heap H locs) {C : String} {T : u_T} {N ci index : Nat} {ty0 : Nat → FieldType} (hF : cF ci C T N ty0) (hin : ∀ w ∈ u_ws C T N, w ∈ Ts) (hk : kd X a = ci + 1) (k : Nat) (hkN : k < N) (hlink : (Cond.fieldLink own index (T k).1 (T k).2.1 (T k).2.2.1).before args s = true) (hfin : (T k).2.2.2 = false ∨ (meth.name = "<init>" ∧ (T k).1 = own)) {v : Value} (hn : narrow (ty0 k) v = v) (hfit : fits (ty0 k) v = true) (X' : Mem) (e1 : nx X' = nx X) (e2 : kd X' = kd X) (e3 : ln X' = ln X) (e4 : ∀ b, b ≠ a → iv X' b = iv X b) (e5 : ∀ b, b ≠ a → rv X' b = rv X b) (e6 : ∀ j, j < N → updV (fv X a ci) k v j = fv X' a ci j) (hdg : decode cc pc = .ok (.putfield index, 3))
    (kk : ∀ (H1 : Heap) (locs1 : List Loc), gw D cA A X' s.heap H1 locs1 → W p l e R s m args below meth c H1 locs1 cells slots Q (F0 m (pc + 3) ls rest)) : W p l e R s m args below meth c H locs cells slots Q (F0 m pc ls (v :: .ref a :: rest)) := by
  obtain ⟨⟨hexec, hb, -, hown, hts⟩, hK⟩ := hC
  obtain ⟨hcl, hty, hnm, -⟩ := hF
  have hap := va_apart (own := own) (ci := ci) hts hin ty0 hty hnm hK hcl
  obtain ⟨hce, -, -, -, -, hlt⟩ := hG.1.2.1 a
  obtain ⟨cell, q1, q2, q3, q4⟩ := hce ci _ hk hcl
  obtain ⟨hS, hfc, kC, hkC, hkind⟩ := hK.1 ci _ hcl
  obtain ⟨cf, kf, fi, f, hi, hsl⟩ := hS k hkN
  have hst := (u_facts hfc hkC (u_lays hts hin hkN) hi).1
  have hAa : A a := hG.1.2.2.1 a (by rw [hk]; exact Nat.succ_ne_zero _)
  have fin : ∀ H' : Heap, H'[a]? = some (cell.setSlot f.slot v) → H'.size = H.size → (∀ q, q ≠ a → H'[q]? = H[q]?) → W p l e R s m args below meth c H' (locs ++ [⟨a, f.slot⟩]) cells slots Q (F0 m (pc + 3) ls rest) := by
    intro H' g1 g2 g3
    refine kk H' _ ⟨wd_set (a := a) hG.1 e1 e2 e3 e4 e5 g2 g3 ?_, hG.2.put g2 g3 hAa⟩
    rw [hsl] at g1
    have hk' : kd X' a = ci + 1 := by rw [e2]; exact hk
    have hci : ci < 6 := (List.getElem?_eq_some_iff.mp hcl).1
    refine ⟨fun ci' r h1 h2 => ?_, fun h => ?_, fun h => ?_, fun h => ?_, fun h => ?_, fun _ => by rw [g2]; exact hlt (by rw [hk]; exact Nat.succ_ne_zero _)⟩
    · have : ci' = ci := by omega
      subst this
      have hr := Option.some.inj (h2.symm.trans hcl)
      subst hr
      exact t_OB.to (V := updV (fv X a ci') k v) ⟨_, g1, q2, q3, t_set q4 hap hkN v⟩ e6
    all_goals (rw [hk'] at h; omega)
  rcases hfin with hfin | ⟨hin2, hdecl⟩
  · have hlay := hts _ (hin _ (u_in_lay hkN))
    unfold u_lay at hlay
    rw [if_neg (by rw [hfin]; decide)] at hlay
    have h6 := u_store hfc hkC hkind hlay hi (hty k hkN) hn hfit
    exact W.putK hexec hb (f := f) ⟨hown, hlink, ⟨_, _, _, hi⟩, hst⟩ (by rw [q2]; exact h6) q1 q3 (by rw [hsl]; exact k2_hasslot (q4 k hkN)) rfl rfl hdg fin
  · by_cases hfin : (T k).2.2.2 = true
    · have hlay := hts _ (hin _ (u_in_lay hkN))
      unfold u_lay at hlay
      rw [if_pos hfin] at hlay
      have hcf : m.cls = cf := by
        obtain ⟨_, _, c', _, _, _, -, -, hf', -, -, -, hown2, -⟩ := Cond.laysFinal_spec hlay
        have e1 : c' = cf := by have := hi.symm.trans hf'; simp at this; exact this.1.symm
        rw [hdecl] at hown2
        rw [← e1]; exact Option.some.inj (hown.symm.trans hown2)
      have h6 := u_fits hfc hkC hkind (Or.inr hlay) hi (hty k hkN) hn hfit
      exact W.putFinK hexec hb hown hlink hi hst hcf hin2 (by rw [q2]; exact h6) q1 q3 (by rw [hsl]; exact k2_hasslot (q4 k hkN)) rfl rfl hdg fin
    · have hlay := hts _ (hin _ (u_in_lay hkN))
      unfold u_lay at hlay
      rw [if_neg hfin] at hlay
      have h6 := u_store hfc hkC hkind hlay hi (hty k hkN) hn hfit
      exact W.putK hexec hb (f := f) ⟨hown, hlink, ⟨_, _, _, hi⟩, hst⟩ (by rw [q2]; exact h6) q1 q3 (by rw [hsl]; exact k2_hasslot (q4 k hkN)) rfl rfl hdg fin
theorem fv_wI {X : Mem} {a ci k v : Nat} (hr : rf ci k = false) (j : Nat) : updV (fv X a ci) k (.int (nI v)) j = fv (wI X a k v) a ci j := by
  by_cases hj : j = k
  · subst hj; simp [updV, fv, hr, wI, iv, up2]
  · simp [updV, hj, fv, wI, iv, rv, up2]
theorem fv_wR {X : Mem} {a ci k : Nat} {v : Option Nat} (hr : rf ci k = true) (j : Nat) : updV (fv X a ci) k (va_rf v) j = fv (wR X a k v) a ci j := by
  by_cases hj : j = k
  · subst hj; simp [updV, fv, hr, wR, rv, up2]
  · simp [updV, hj, fv, wR, iv, rv, up2]
theorem q_puti (hC : cx p s m args c cc nL Ts own D cA) (hG : gw D cA A X s.heap H locs) {C : String} {T : u_T} {N ci index : Nat} {ty0 : Nat → FieldType} (hF : cF ci C T N ty0) (hin : ∀ w ∈ u_ws C T N, w ∈ Ts) (hk : kd X a = ci + 1) (k : Nat) (hkN : k < N) (hr : rf ci k = false) (hlink : (Cond.fieldLink own index (T k).1 (T k).2.1 (T k).2.2.1).before args s = true) (hfin : (T k).2.2.2 = false ∨ (meth.name = "<init>" ∧ (T k).1 = own)) {v : Nat} (hn : narrow (ty0 k) (.int (nI v)) = .int (nI v)) (hfit : fits (ty0 k) (.int (nI v)) = true) (hdg : decode cc pc = .ok (.putfield index, 3))
    (kk : ∀ (H1 : Heap) (locs1 : List Loc), gw D cA A (wI X a k v) s.heap H1 locs1 → W p l e R s m args below meth c H1 locs1 cells slots Q (F0 m (pc + 3) ls rest)) : W p l e R s m args below meth c H locs cells slots Q (F0 m pc ls (.int (nI v) :: .ref a :: rest)) :=
  q_putX hC hG hF hin hk k hkN hlink hfin hn hfit (wI X a k v) rfl rfl rfl (fun b hb => up2_row _ _ hb) (fun _ _ => rfl) (fun j _ => fv_wI hr j) hdg kk
theorem q_putr (hC : cx p s m args c cc nL Ts own D cA) (hG : gw D cA A X s.heap H locs) {C : String} {T : u_T} {N ci index : Nat} {ty0 : Nat → FieldType} (hF : cF ci C T N ty0) (hin : ∀ w ∈ u_ws C T N, w ∈ Ts) (hk : kd X a = ci + 1) (k : Nat) (hkN : k < N) (hr : rf ci k = true) (hlink : (Cond.fieldLink own index (T k).1 (T k).2.1 (T k).2.2.1).before args s = true) (hfin : (T k).2.2.2 = false ∨ (meth.name = "<init>" ∧ (T k).1 = own)) {v : Nat} (hn : narrow (ty0 k) (.ref v) = .ref v) (hfit : fits (ty0 k) (.ref v) = true) (hdg : decode cc pc = .ok (.putfield index, 3))
    (kk : ∀ (H1 : Heap) (locs1 : List Loc), gw D cA A (wR X a k (some v)) s.heap H1 locs1 → W p l e R s m args below meth c H1 locs1 cells slots Q (F0 m (pc + 3) ls rest)) : W p l e R s m args below meth c H locs cells slots Q (F0 m pc ls (.ref v :: .ref a :: rest)) :=
  q_putX hC hG hF hin hk k hkN hlink hfin hn hfit (wR X a k (some v)) rfl rfl rfl (fun _ _ => rfl) (fun b hb => up2_row _ _ hb) (fun j _ => fv_wR (v := some v) hr j) hdg kk
end QROWS
