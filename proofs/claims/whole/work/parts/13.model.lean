/-! THE REFERENCE'S MEMORY: one object at mb; M k j is place j of the array in its field k (17, 18: the int fields letters, lost: place 0) -/
abbrev MM : Type := Nat → Nat → Nat
/-- fields that are arrays; the array's place behind the object; which are boolean; lengths -/
def ak (k : Nat) : Bool := Nat.ble 2 k && Nat.ble k 25 && !(k == 17) && !(k == 18)
def ao (k : Nat) : Nat := if k < 17 then k - 1 else k - 3
def fo (d : Nat) : Nat := if d < 16 then d + 1 else d + 3
def bo (k : Nat) : Bool := k == 8 || k == 11 || k == 12 || k == 14 || k == 16 || k == 24
def az (k : Nat) : Nat := match k with
  | 2 => 28320 | 3 => 295 | 4 => 295 | 5 => 5 | 6 => 5 | 7 => 5 | 8 => 5 | 9 => 5
  | 10 => 25 | 11 => 25 | 12 => 25 | 13 => 25 | 14 => 25 | 15 => 25 | 16 => 25
  | 25 => 8 | _ => 240
def sM (mb : Nat) (X : Mem) (M : MM) : Mem := (nx X, kd X, ln X, fun a j => if a = mb then (if j = 17 then M 17 0 else if j = 18 then M 18 0 else iv X a j) else if mb < a ∧ a < mb + 23 then M (fo (a - mb)) j else iv X a j, rv X)
def mS (mb n f : Nat) (X : Mem) : Prop := kd X mb = 6 ∧ iv X mb 0 = n ∧ iv X mb 1 = f ∧ (∀ k, ak k = true → rv X mb k = some (mb + ao k) ∧ kd X (mb + ao k) = (if bo k = true then 8 else 7) ∧ ln X (mb + ao k) = az k) ∧ ((n = 3 ∧ f = 1) ∨ (n = 5 ∧ f = 2))
def bk (k : Nat) : Bool := !(k == 2) && !(k == 18) && !(k == 25)
/-- whole numbers that are small; at most 240 letters -/
def bM (M : MM) : Prop := (∀ k j, bk k = true → M k j < 2147483648) ∧ M 17 0 ≤ 240
theorem bM_up {M : MM} (h : bM M) (k j : Nat) {v : Nat} (hv : v < 2147483648) (hk : k ≠ 17 := by decide) : bM (up2 M k j v) := by
  refine ⟨fun k' j' hk => ?_, ?_⟩
  · unfold up2
    split
    · exact hv
    · exact h.1 k' j' hk
  · rw [up2_ne _ _ (fun z => hk z.1.symm)]; exact h.2
theorem bM_upl {M : MM} (h : bM M) {v : Nat} (hv : v ≤ 240) : bM (up2 M 17 0 v) := by
  refine ⟨fun k' j' hk => ?_, ?_⟩
  · unfold up2
    split
    · omega
    · exact h.1 k' j' hk
  · rw [up2_self]; exact hv
theorem bM_upx {M : MM} (h : bM M) (k j : Nat) {v : Nat} (hk : bk k = false) : bM (up2 M k j v) := by
  refine ⟨fun k' j' hk' => ?_, ?_⟩
  · unfold up2
    split
    · rename_i hc
      rw [hc.1, hk] at hk'; cases hk'
    · exact h.1 k' j' hk'
  · rw [up2_ne _ _ (fun z => by rw [← z.1] at hk; cases hk)]; exact h.2
theorem az_lt (k : Nat) : az k < 2147483648 := by
  unfold az; split <;> decide
theorem ak_le {k : Nat} (h : ak k = true) : 2 ≤ k ∧ k ≤ 25 ∧ k ≠ 17 ∧ k ≠ 18 := by
  simp only [ak, Bool.and_eq_true, Nat.ble_eq, Bool.not_eq_true', beq_eq_false_iff_ne] at h
  exact ⟨h.1.1.1, h.1.1.2, h.1.2, h.2⟩
theorem fo_ao {k : Nat} (h : ak k = true) : 0 < ao k ∧ ao k < 23 ∧ fo (ao k) = k := by
  obtain ⟨h1, h2, h3, h4⟩ := ak_le h
  unfold ao fo
  split <;> split <;> omega
theorem sM_at {mb : Nat} {X : Mem} {M : MM} {k j : Nat} (h : ak k = true) : iv (sM mb X M) (mb + ao k) j = M k j := by
  obtain ⟨h1, h2, h3⟩ := fo_ao h
  show (if mb + ao k = mb then _ else if mb < mb + ao k ∧ mb + ao k < mb + 23 then M (fo (mb + ao k - mb)) j else _) = _
  rw [if_neg (by omega), if_pos (by omega), Nat.add_sub_cancel_left, h3]
theorem sM_set {mb : Nat} {X : Mem} {M : MM} {k j v : Nat} (h : ak k = true) : wI (sM mb X M) (mb + ao k) j v = sM mb X (up2 M k j v) := by
  obtain ⟨h1, h2, h3⟩ := fo_ao h
  have e17 : k ≠ 17 := (ak_le h).2.2.1
  have e18 : k ≠ 18 := (ak_le h).2.2.2
  refine Prod.ext rfl (Prod.ext rfl (Prod.ext rfl (Prod.ext ?_ rfl)))
  funext a i
  show up2 (iv (sM mb X M)) (mb + ao k) j v a i = (if a = mb then _ else if mb < a ∧ a < mb + 23 then up2 M k j v (fo (a - mb)) i else _)
  by_cases ha : a = mb
  · subst ha
    rw [up2_ne _ _ (by omega), if_pos rfl]
    show (if a = a then _ else _) = _
    rw [if_pos rfl]
    simp [up2, Ne.symm e17, Ne.symm e18]
  · rw [if_neg ha]
    by_cases hr : mb < a ∧ a < mb + 23
    · rw [if_pos hr]
      by_cases hk : fo (a - mb) = k
      · have hak : a = mb + ao k := by
          have : fo (a - mb) = fo (ao k) := by rw [hk, h3]
          unfold fo at this
          split at this <;> split at this <;> omega
        subst hak
        by_cases hi : i = j
        · subst hi; rw [up2_self, Nat.add_sub_cancel_left, h3, up2_self]
        · rw [up2_ne _ _ (fun hc => hi hc.2), sM_at h, Nat.add_sub_cancel_left, h3, up2_ne _ _ (fun hc => hi hc.2)]
      · rw [up2_ne _ _ (by
          intro hc; apply hk; rw [hc.1, Nat.add_sub_cancel_left, h3]), up2_ne _ _ (fun hc => hk hc.1)]
        show (if a = mb then _ else if mb < a ∧ a < mb + 23 then M (fo (a - mb)) i else _) = _
        rw [if_neg ha, if_pos hr]
    · rw [if_neg hr, up2_ne _ _ (by intro hc; apply hr; omega)]
      show (if a = mb then _ else if mb < a ∧ a < mb + 23 then _ else iv X a i) = _
      rw [if_neg ha, if_neg hr]
theorem sM_int {mb : Nat} {X : Mem} {M : MM} {k : Nat} (h : k = 17 ∨ k = 18) : iv (sM mb X M) mb k = M k 0 := by
  show (if mb = mb then (if k = 17 then M 17 0 else if k = 18 then M 18 0 else iv X mb k) else _) = _
  rw [if_pos rfl]
  rcases h with rfl | rfl <;> rfl
theorem sM_con {mb : Nat} {X : Mem} {M : MM} {k : Nat} (h : k ≠ 17 ∧ k ≠ 18) : iv (sM mb X M) mb k = iv X mb k := by
  show (if mb = mb then (if k = 17 then M 17 0 else if k = 18 then M 18 0 else iv X mb k) else _) = _
  rw [if_pos rfl, if_neg h.1, if_neg h.2]
theorem sM_seti {mb : Nat} {X : Mem} {M : MM} {k v : Nat} (h : k = 17 ∨ k = 18) : wI (sM mb X M) mb k v = sM mb X (up2 M k 0 v) := by
  refine Prod.ext rfl (Prod.ext rfl (Prod.ext rfl (Prod.ext ?_ rfl)))
  funext a i
  show up2 (iv (sM mb X M)) mb k v a i = (if a = mb then (if i = 17 then up2 M k 0 v 17 0 else if i = 18 then up2 M k 0 v 18 0 else iv X a i) else if mb < a ∧ a < mb + 23 then up2 M k 0 v (fo (a - mb)) i else iv X a i)
  by_cases ha : a = mb
  · subst ha
    rw [if_pos rfl]
    by_cases hi : i = k
    · subst hi
      rw [up2_self]
      rcases h with rfl | rfl <;> simp [up2]
    · rw [up2_ne _ _ (fun hc => hi hc.2)]
      show (if a = a then (if i = 17 then M 17 0 else if i = 18 then M 18 0 else iv X a i) else _) = _
      rw [if_pos rfl]
      rcases h with rfl | rfl
      · simp [hi, up2]
      · by_cases h17 : i = 17 <;> simp [h17, hi, up2]
  · rw [if_neg ha, up2_ne _ _ (fun hc => ha hc.1)]
    show (if a = mb then _ else if mb < a ∧ a < mb + 23 then M (fo (a - mb)) i else iv X a i) = _
    rw [if_neg ha]
    by_cases hr : mb < a ∧ a < mb + 23
    · rw [if_pos hr, if_pos hr, up2_ne]
      intro hc
      have : fo (a - mb) ≠ 17 ∧ fo (a - mb) ≠ 18 := by unfold fo; split <;> omega
      omega
    · rw [if_neg hr, if_neg hr]
section MROWS
variable {p : Program} {l : Launch} {e : Env} {R : Room} {s : State} {m : MethodId} {args : Array Value} {below : List Frame} {meth : Method} {c : Code} {H : Heap} {locs : List Loc} {cells slots : Nat} {Q : State → Prop}
variable {cc : ByteArray} {pc nL : Nat} {ls : Array Slot} {rest : List Value} {D : va_G} {cA : Nat → ClassId} {A : Nat → Prop} {X : Mem} {Ts : List Cond} {own : String} {mb n f : Nat} {M : MM}
theorem q_mg (hC : cx p s m args c cc nL Ts own D cA) (hG : gw D cA A (sM mb X M) s.heap H locs) (hS : mS mb n f X) (hin : ∀ w ∈ wsX50, w ∈ Ts) {index : Nat} (k : Nat) (hk : ak k = true) (hlink : (Cond.fieldLink own index (TX5 k).1 (TX5 k).2.1 (TX5 k).2.2.1).before args s = true) (hdg : decode cc pc = .ok (.getfield index, 3))
    (kk : W p l e R s m args below meth c H locs cells slots Q (F0 m (pc + 3) ls (.ref (mb + ao k) :: rest))) : W p l e R s m args below meth c H locs cells slots Q (F0 m pc ls (.ref mb :: rest)) :=
  q_getr hC hG cF5 hin hS.1 k (Nat.lt_succ_of_le (ak_le hk).2.1) (by
    obtain ⟨h1, h2, h3, h4⟩ := ak_le hk
    simp only [rf, Bool.not_eq_true', Bool.or_eq_false_iff, beq_eq_false_iff_ne]
    omega) (hS.2.2.2.1 k hk).1 hlink hdg kk
theorem q_ml (hC : cx p s m args c cc nL Ts own D cA) (hG : gw D cA A (sM mb X M) s.heap H locs) (hS : mS mb n f X) (k : Nat) (hk : ak k = true) (hb : bo k = false) {N j w : Nat} (hN : az k = N) (hj : j < N) (hw : M k j = w) (hdg : decode cc pc = .ok (.iaload, 1))
    (kk : W p l e R s m args below meth c H locs cells slots Q (F0 m (pc + 1) ls (.int (nI w) :: rest))) : W p l e R s m args below meth c H locs cells slots Q (F0 m pc ls (.int (nI j) :: .ref (mb + ao k) :: rest)) := by
  have h := (hS.2.2.2.1 k hk).2
  rw [hb] at h
  refine q_iald hC hG (n := N) h.1 (h.2.trans hN) hj (by rw [← hN]; exact az_lt k) hdg ?_
  rw [sM_at hk, hw]
  exact kk
theorem q_mlz (hC : cx p s m args c cc nL Ts own D cA) (hG : gw D cA A (sM mb X M) s.heap H locs) (hS : mS mb n f X) (k : Nat) (hk : ak k = true) (hb : bo k = true) {N j w : Nat} (hN : az k = N) (hj : j < N) (hw : M k j = w) (hdg : decode cc pc = .ok (.baload, 1))
    (kk : W p l e R s m args below meth c H locs cells slots Q (F0 m (pc + 1) ls (.int (nI w) :: rest))) : W p l e R s m args below meth c H locs cells slots Q (F0 m pc ls (.int (nI j) :: .ref (mb + ao k) :: rest)) := by
  have h := (hS.2.2.2.1 k hk).2
  rw [hb] at h
  refine q_zald hC hG (n := N) h.1 (h.2.trans hN) hj (by rw [← hN]; exact az_lt k) hdg ?_
  rw [sM_at hk, hw]
  exact kk
theorem q_ms (hC : cx p s m args c cc nL Ts own D cA) (hG : gw D cA A (sM mb X M) s.heap H locs) (hS : mS mb n f X) (k : Nat) (hk : ak k = true) (hb : bo k = false) {N j v : Nat} (hN : az k = N) (hj : j < N) (hdg : decode cc pc = .ok (.iastore, 1))
    (kk : ∀ (H1 : Heap) (locs1 : List Loc), gw D cA A (sM mb X (up2 M k j v)) s.heap H1 locs1 → W p l e R s m args below meth c H1 locs1 cells slots Q (F0 m (pc + 1) ls rest)) : W p l e R s m args below meth c H locs cells slots Q (F0 m pc ls (.int (nI v) :: .int (nI j) :: .ref (mb + ao k) :: rest)) := by
  have h := (hS.2.2.2.1 k hk).2
  rw [hb] at h
  refine q_iast hC hG (n := N) h.1 (h.2.trans hN) hj (by rw [← hN]; exact az_lt k) hdg (fun H1 l1 g => kk H1 l1 ?_)
  rw [sM_set hk] at g
  exact g
theorem q_msz (hC : cx p s m args c cc nL Ts own D cA) (hG : gw D cA A (sM mb X M) s.heap H locs) (hS : mS mb n f X) (k : Nat) (hk : ak k = true) (hb : bo k = true) {N j v : Nat} (hN : az k = N) (hj : j < N) (hv : v ≤ 1) (hdg : decode cc pc = .ok (.bastore, 1))
    (kk : ∀ (H1 : Heap) (locs1 : List Loc), gw D cA A (sM mb X (up2 M k j v)) s.heap H1 locs1 → W p l e R s m args below meth c H1 locs1 cells slots Q (F0 m (pc + 1) ls rest)) : W p l e R s m args below meth c H locs cells slots Q (F0 m pc ls (.int (nI v) :: .int (nI j) :: .ref (mb + ao k) :: rest)) := by
  have h := (hS.2.2.2.1 k hk).2
  rw [hb] at h
  refine q_zast hC hG (n := N) h.1 (h.2.trans hN) hj (by rw [← hN]; exact az_lt k) hv hdg (fun H1 l1 g => kk H1 l1 ?_)
  rw [sM_set hk] at g
  exact g
theorem q_mi (hC : cx p s m args c cc nL Ts own D cA) (hG : gw D cA A (sM mb X M) s.heap H locs) (hS : mS mb n f X) (hin : ∀ w ∈ wsX50, w ∈ Ts) {index w : Nat} (k : Nat) (hk : k = 17 ∨ k = 18) (hw : M k 0 = w) (hlink : (Cond.fieldLink own index (TX5 k).1 (TX5 k).2.1 (TX5 k).2.2.1).before args s = true) (hdg : decode cc pc = .ok (.getfield index, 3))
    (kk : W p l e R s m args below meth c H locs cells slots Q (F0 m (pc + 3) ls (.int (nI w) :: rest))) : W p l e R s m args below meth c H locs cells slots Q (F0 m pc ls (.ref mb :: rest)) :=
  q_geti hC hG cF5 hin hS.1 k (by rcases hk with rfl | rfl <;> decide) (by rcases hk with rfl | rfl <;> rfl) hlink hdg (by rw [sM_int hk, hw]; exact kk)
theorem q_mn (hC : cx p s m args c cc nL Ts own D cA) (hG : gw D cA A (sM mb X M) s.heap H locs) (hS : mS mb n f X) (hin : ∀ w ∈ wsX50, w ∈ Ts) {index : Nat} (hlink : (Cond.fieldLink own index (TX5 0).1 (TX5 0).2.1 (TX5 0).2.2.1).before args s = true) (hdg : decode cc pc = .ok (.getfield index, 3))
    (kk : W p l e R s m args below meth c H locs cells slots Q (F0 m (pc + 3) ls (.int (nI n) :: rest))) : W p l e R s m args below meth c H locs cells slots Q (F0 m pc ls (.ref mb :: rest)) :=
  q_geti hC hG cF5 hin hS.1 0 (by decide) rfl hlink hdg (by rw [sM_con ⟨by decide, by decide⟩, hS.2.1]; exact kk)
theorem q_mf (hC : cx p s m args c cc nL Ts own D cA) (hG : gw D cA A (sM mb X M) s.heap H locs) (hS : mS mb n f X) (hin : ∀ w ∈ wsX50, w ∈ Ts) {index : Nat} (hlink : (Cond.fieldLink own index (TX5 1).1 (TX5 1).2.1 (TX5 1).2.2.1).before args s = true) (hdg : decode cc pc = .ok (.getfield index, 3))
    (kk : W p l e R s m args below meth c H locs cells slots Q (F0 m (pc + 3) ls (.int (nI f) :: rest))) : W p l e R s m args below meth c H locs cells slots Q (F0 m pc ls (.ref mb :: rest)) :=
  q_geti hC hG cF5 hin hS.1 1 (by decide) rfl hlink hdg (by rw [sM_con ⟨by decide, by decide⟩, hS.2.2.1]; exact kk)
theorem q_mp (hC : cx p s m args c cc nL Ts own D cA) (hG : gw D cA A (sM mb X M) s.heap H locs) (hS : mS mb n f X) (hin : ∀ w ∈ wsX50, w ∈ Ts) {index v : Nat} (k : Nat) (hk : k = 17 ∨ k = 18) (hlink : (Cond.fieldLink own index (TX5 k).1 (TX5 k).2.1 (TX5 k).2.2.1).before args s = true) (hdg : decode cc pc = .ok (.putfield index, 3))
    (kk : ∀ (H1 : Heap) (locs1 : List Loc), gw D cA A (sM mb X (up2 M k 0 v)) s.heap H1 locs1 → W p l e R s m args below meth c H1 locs1 cells slots Q (F0 m (pc + 3) ls rest)) : W p l e R s m args below meth c H locs cells slots Q (F0 m pc ls (.int (nI v) :: .ref mb :: rest)) :=
  q_puti hC hG cF5 hin hS.1 k (by rcases hk with rfl | rfl <;> decide) (by rcases hk with rfl | rfl <;> rfl) hlink (Or.inl (by rcases hk with rfl | rfl <;> rfl)) (by rcases hk with rfl | rfl <;> rfl) (by rcases hk with rfl | rfl <;> rfl) hdg (fun H1 l1 g => kk H1 l1 (by rw [sM_seti hk] at g; exact g))
end MROWS
