section CROWS
variable {p : Program} {l : Launch} {e : Env} {R : Room} {s : State} {m : MethodId} {args : Array Value} {below : List Frame} {meth : Method} {c : Code} {H : Heap} {locs : List Loc} {cells slots : Nat} {Q : State → Prop}
variable {cc : ByteArray} {pc nL : Nat} {ls : Array Slot} {rest : List Value} {D : va_G} {cA : Nat → ClassId} {A : Nat → Prop} {a : Nat} {X : Mem} {Ts : List Cond} {own : String}
theorem q_gw (hC : cx p s m args c cc nL Ts own D cA) (hG : gw D cA A X s.heap H locs) {C : String} {T : u_T} {N ci index w : Nat} {ty0 : Nat → FieldType} (hF : cF ci C T N ty0) (hin : ∀ w ∈ u_ws C T N, w ∈ Ts) (hk : kd X a = ci + 1) (k : Nat) (hkN : k < N) (hr : rf ci k = false) (hw : iv X a k = w) (hlink : (Cond.fieldLink own index (T k).1 (T k).2.1 (T k).2.2.1).before args s = true) (hdg : decode cc pc = .ok (.getfield index, 3))
    (kk : W p l e R s m args below meth c H locs cells slots Q (F0 m (pc + 3) ls (.int (nI w) :: rest))) : W p l e R s m args below meth c H locs cells slots Q (F0 m pc ls (.ref a :: rest)) :=
  q_geti hC hG hF hin hk k hkN hr hlink hdg (by rw [hw]; exact kk)
theorem q_iw (hC : cx p s m args c cc nL Ts own D cA) (hG : gw D cA A X s.heap H locs) (hk : kd X a = 7) {n i w : Nat} (hl : ln X a = n) (hi : i < n) (hn : n < 2 ^ 31) (hw : iv X a i = w) (hdg : decode cc pc = .ok (.iaload, 1))
    (kk : W p l e R s m args below meth c H locs cells slots Q (F0 m (pc + 1) ls (.int (nI w) :: rest))) : W p l e R s m args below meth c H locs cells slots Q (F0 m pc ls (.int (nI i) :: .ref a :: rest)) :=
  q_iald hC hG hk hl hi hn hdg (by rw [hw]; exact kk)
theorem q_zw (hC : cx p s m args c cc nL Ts own D cA) (hG : gw D cA A X s.heap H locs) (hk : kd X a = 8) {n i w : Nat} (hl : ln X a = n) (hi : i < n) (hn : n < 2 ^ 31) (hw : iv X a i = w) (hdg : decode cc pc = .ok (.baload, 1))
    (kk : W p l e R s m args below meth c H locs cells slots Q (F0 m (pc + 1) ls (.int (nI w) :: rest))) : W p l e R s m args below meth c H locs cells slots Q (F0 m pc ls (.int (nI i) :: .ref a :: rest)) :=
  q_zald hC hG hk hl hi hn hdg (by rw [hw]; exact kk)
theorem q_aw (hC : cx p s m args c cc nL Ts own D cA) (hG : gw D cA A X s.heap H locs) (hk : kd X a = 9 ∨ kd X a = 10) {n i : Nat} {v : Value} (hl : ln X a = n) (hi : i < n) (hn : n < 2 ^ 31) (hw : va_rf (rv X a i) = v) (hdg : decode cc pc = .ok (.aaload, 1))
    (kk : W p l e R s m args below meth c H locs cells slots Q (F0 m (pc + 1) ls (v :: rest))) : W p l e R s m args below meth c H locs cells slots Q (F0 m pc ls (.int (nI i) :: .ref a :: rest)) :=
  q_aald hC hG hk hl hi hn hdg (by rw [hw]; exact kk)
end CROWS
/-! reading the class's cells -/
section CREAD
variable {b n f i : Nat} {X : Mem} {M : MM} {P : Nat → Nat}
theorem g_n9 (hi : i < n) : iv (cM b n X M P) (na b i) 9 = M 5 i := cM_n hi X M P 9
theorem g_n10 (hi : i < n) : iv (cM b n X M P) (na b i) 10 = M 6 i := cM_n hi X M P 10
theorem g_n11 (hi : i < n) : iv (cM b n X M P) (na b i) 11 = M 4 i := cM_n hi X M P 11
theorem g_n13 (hi : i < n) : iv (cM b n X M P) (na b i) 13 = M 7 i := cM_n hi X M P 13
theorem g_n14 (hi : i < n) : iv (cM b n X M P) (na b i) 14 = P i := cM_n hi X M P 14
theorem g_n15 (hi : i < n) : iv (cM b n X M P) (na b i) 15 = vm M (5 * i) n := cM_n hi X M P 15
theorem g_n16 (hi : i < n) : iv (cM b n X M P) (na b i) 16 = M 8 i := cM_n hi X M P 16
theorem g_n0 (hs : Sd b n f X M) (hi : i < n) : iv (cM b n X M P) (na b i) 0 = i := (cM_n hi X M P 0).trans (hs.1.2.2.2.2.2.1 i hi).1.2.1
theorem g_n1 (hs : Sd b n f X M) (hi : i < n) : iv (cM b n X M P) (na b i) 1 = n := (cM_n hi X M P 1).trans (hs.1.2.2.2.2.2.1 i hi).1.2.2.1
theorem g_n2 (hs : Sd b n f X M) (hi : i < n) : iv (cM b n X M P) (na b i) 2 = f := (cM_n hi X M P 2).trans (hs.1.2.2.2.2.2.1 i hi).1.2.2.2
theorem g_kn (hs : Sd b n f X M) (hi : i < n) : kd (cM b n X M P) (na b i) = 3 := (hs.1.2.2.2.2.2.1 i hi).1.1
theorem g_nf (hs : Sd b n f X M) : (n = 3 ∧ f = 1) ∨ (n = 5 ∧ f = 2) := hs.1.2.2.2.2.2.2
/-- letters, logs and their arrays lie outside the fixed ints -/
theorem g_out {a : Nat} (hs : Sd b n f X M) (h : kd X a = 1 ∨ kd X a = 2) : a ≠ b + 3 ∧ (a < b + 6 ∨ b + 7 + 5 * n ≤ a) := by
  obtain ⟨-, -, ⟨c1, -⟩, -, ⟨e1, -⟩, g, -⟩ := hs.1
  refine ⟨fun z => ?_, Classical.byContradiction fun z => ?_⟩
  · rw [z, c1] at h; omega
  · by_cases h2 : a = b + 6 + 5 * n
    · rw [h2, e1] at h; omega
    · obtain ⟨⟨g1, -⟩, -, g11, -, g13, -, g15, -, g17, -⟩ := g ((a - (b + 6)) / 5) (by omega)
      unfold na at g1 g11 g13 g15 g17
      have h5 : a = b + 6 + 5 * ((a - (b + 6)) / 5) + (a - (b + 6)) % 5 := by omega
      rcases (show (a - (b + 6)) % 5 = 0 ∨ (a - (b + 6)) % 5 = 1 ∨ (a - (b + 6)) % 5 = 2 ∨ (a - (b + 6)) % 5 = 3 ∨ (a - (b + 6)) % 5 = 4 by omega) with r | r | r | r | r <;> rw [r] at h5
      · rw [h5, Nat.add_zero, g1] at h; omega
      · rw [h5, g11] at h; omega
      · rw [h5, g13] at h; omega
      · rw [h5, g15] at h; omega
      · rw [h5, g17] at h; omega
theorem g_iv {a : Nat} (hs : Sd b n f X M) (h : kd X a = 1 ∨ kd X a = 2) (k : Nat) : iv (cM b n X M P) a k = iv X a k := cM_o (g_out hs h).1 (g_out hs h).2 X M P k
theorem g_arr {a : Nat} (h : a = b + 2 ∨ he b n ≤ a) (k : Nat) : iv (cM b n X M P) a k = iv X a k := cM_o (by unfold he at h; omega) (by unfold he at h; omega) X M P k
end CREAD
theorem gw_lt {D : va_G} {cA : Nat → ClassId} {A : Nat → Prop} {X : Mem} {H0 H : Heap} {locs : List Loc} (h : gw D cA A X H0 H locs) : ∀ a, kd X a ≠ 0 → a < nx X := fun _ ha => wd_lt h.1 ha
/-- the registers' scratch row -/
theorem cM_reg {b n i : Nat} (hi : i < n) (X : Mem) (M : MM) (P : Nat → Nat) (k v : Nat) : wI (cM b n X M P) (na b i + 1) k v = cM b n (wI X (na b i + 1) k v) M P := by
  refine Prod.ext rfl (Prod.ext rfl (Prod.ext rfl (Prod.ext ?_ rfl)))
  funext a j
  show up2 (fun a j => cV b n M P a j (iv X a j)) (na b i + 1) k v a j = cV b n M P a j (up2 (iv X) (na b i + 1) k v a j)
  by_cases h : a = na b i + 1 ∧ j = k
  · obtain ⟨rfl, rfl⟩ := h
    rw [up2_self, up2_self, show na b i + 1 = b + 6 + 5 * i + 1 from rfl, cV_node hi (by decide), if_neg (by decide), if_neg (by omega)]
  · rw [up2_ne _ _ h, up2_ne _ _ h]
theorem Sd_reg {b n f i k v : Nat} {X : Mem} {M : MM} (h : Sd b n f X M) (hi : i < n) : Sd b n f (wI X (na b i + 1) k v) M ∧ go b n X (wI X (na b i + 1) k v) := by
  have kr : kd X (na b i + 1) = 7 := (h.1.2.2.2.2.2.1 i hi).2.2.1
  have g : go b n X (wI X (na b i + 1) k v) := go_wI (by rw [kr]; decide) (by unfold na; omega) (by unfold na; omega)
  refine ⟨Sd_kept h g (fun a _ => rfl) (fun j hj => ⟨up2_ne _ _ (by unfold na; omega), up2_ne _ _ (by unfold na; omega), up2_ne _ _ (by unfold na; omega)⟩) (fun q hq => up2_ne _ _ (fun z => by rw [z.1, kr] at hq; cases hq)) (up2_row _ _ (by unfold na; omega)), g⟩
/-- a new cell and what is written into it -/
theorem cM_nw {b n : Nat} (X : Mem) (M : MM) (P : Nat → Nat) (k m : Nat) (h : he b n ≤ nx X) : nw (cM b n X M P) k m = cM b n (nw X k m) M P := by
  refine Prod.ext rfl (Prod.ext rfl (Prod.ext rfl (Prod.ext ?_ rfl)))
  funext a j
  show va_up (fun a j => cV b n M P a j (iv X a j)) (nx X) (fun _ => 0) a j = cV b n M P a j (va_up (iv X) (nx X) (fun _ => 0) a j)
  unfold he at h
  by_cases ha : a = nx X
  · subst ha
    rw [va_up_self, va_up_self, cV_out (by omega) (by omega)]
  · rw [va_up_ne _ _ ha, va_up_ne _ _ ha]
theorem cM_wI {b n : Nat} (X : Mem) (M : MM) (P : Nat → Nat) {a : Nat} (k v : Nat) (h1 : a ≠ b + 3) (h2 : a < b + 6 ∨ b + 7 + 5 * n ≤ a) : wI (cM b n X M P) a k v = cM b n (wI X a k v) M P := by
  refine Prod.ext rfl (Prod.ext rfl (Prod.ext rfl (Prod.ext ?_ rfl)))
  funext c j
  show up2 (fun a j => cV b n M P a j (iv X a j)) a k v c j = cV b n M P c j (up2 (iv X) a k v c j)
  by_cases h : c = a ∧ j = k
  · obtain ⟨rfl, rfl⟩ := h
    rw [up2_self, up2_self, cV_out h1 h2]
  · rw [up2_ne _ _ h, up2_ne _ _ h]
theorem cM_wR {b n : Nat} (X : Mem) (M : MM) (P : Nat → Nat) (a k : Nat) (v : Option Nat) : wR (cM b n X M P) a k v = cM b n (wR X a k v) M P := rfl
