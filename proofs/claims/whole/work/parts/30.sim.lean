/-! THE CLASS'S MEMORY AGAINST THE REFERENCE'S. b: the address of the ViewStamps object; its fixed cells lie at b .. b + 6 + 5 n, the reference's behind them up to he -/
def na (b i : Nat) : Nat := b + 6 + 5 * i
def he (b n : Nat) : Nat := b + 30 + 5 * n
/-- the voters' mask -/
def vm (M : MM) (base : Nat) : Nat → Nat
  | 0 => 0
  | j + 1 => vm M base j + (if M 11 (base + j) = 0 then 0 else 2 ^ j)
/-- the int fields of node i (P: the nonces that the class keeps) -/
def cN (n : Nat) (M : MM) (P : Nat → Nat) (i k d : Nat) : Nat :=
  if k = 9 then M 5 i else if k = 10 then M 6 i else if k = 11 then M 4 i else if k = 13 then M 7 i else if k = 14 then P i else if k = 15 then vm M (5 * i) n else if k = 16 then M 8 i else d
/-- the int at place j of the fixed cell a -/
def cV (b n : Nat) (M : MM) (P : Nat → Nat) (a j d : Nat) : Nat :=
  if a = b + 3 then (if j = 1 then M 17 0 else if j = 2 then M 18 0 else d)
  else if a = b + 6 + 5 * n then (if j < n * n ∧ j / n < j % n then M 16 (5 * (j / n) + j % n) else d)
  else if b + 6 ≤ a ∧ a < b + 6 + 5 * n then
    (if (a - (b + 6)) % 5 = 0 then cN n M P ((a - (b + 6)) / 5) j d else if (a - (b + 6)) % 5 = 4 ∧ j < n then M 10 (5 * ((a - (b + 6)) / 5) + j) else d)
  else d
/-- the class's memory: X, its fixed ints as the reference's memory M has them -/
def cM (b n : Nat) (X : Mem) (M : MM) (P : Nat → Nat) : Mem := (nx X, kd X, ln X, fun a j => cV b n M P a j (iv X a j), rv X)
theorem cV_pool (b n : Nat) (M : MM) (P : Nat → Nat) (j d : Nat) : cV b n M P (b + 3) j d = if j = 1 then M 17 0 else if j = 2 then M 18 0 else d := if_pos rfl
theorem cV_cut {b n : Nat} (M : MM) (P : Nat → Nat) (j d : Nat) : cV b n M P (b + 6 + 5 * n) j d = if j < n * n ∧ j / n < j % n then M 16 (5 * (j / n) + j % n) else d := by
  unfold cV
  rw [if_neg (by omega), if_pos rfl]
theorem cV_node {b n i r : Nat} (hi : i < n) (hr : r < 5) (M : MM) (P : Nat → Nat) (j d : Nat) : cV b n M P (b + 6 + 5 * i + r) j d = if r = 0 then cN n M P i j d else if r = 4 ∧ j < n then M 10 (5 * i + j) else d := by
  unfold cV
  rw [if_neg (by omega), if_neg (by omega), if_pos (by omega)]
  have e1 : (b + 6 + 5 * i + r - (b + 6)) % 5 = r := by omega
  have e2 : (b + 6 + 5 * i + r - (b + 6)) / 5 = i := by omega
  rw [e1, e2]
theorem cV_out {b n a : Nat} (h1 : a ≠ b + 3) (h2 : a < b + 6 ∨ b + 7 + 5 * n ≤ a) (M : MM) (P : Nat → Nat) (j d : Nat) : cV b n M P a j d = d := by
  unfold cV
  rw [if_neg h1, if_neg (by omega), if_neg (by omega)]
/-- the cells: the pool, a node's five, the cut lines, others -/
theorem cV_cases (b n a : Nat) : a = b + 3 ∨ a = b + 6 + 5 * n ∨ (∃ i r, i < n ∧ r < 5 ∧ a = b + 6 + 5 * i + r) ∨ (a ≠ b + 3 ∧ (a < b + 6 ∨ b + 7 + 5 * n ≤ a)) := by
  by_cases h1 : a = b + 3
  · exact Or.inl h1
  · by_cases h2 : a = b + 6 + 5 * n
    · exact Or.inr (Or.inl h2)
    · by_cases h3 : b + 6 ≤ a ∧ a < b + 6 + 5 * n
      · refine Or.inr (Or.inr (Or.inl ⟨(a - (b + 6)) / 5, (a - (b + 6)) % 5, by omega, by omega, by omega⟩))
      · exact Or.inr (Or.inr (Or.inr ⟨h1, by omega⟩))
theorem cM_iv (b n : Nat) (X : Mem) (M : MM) (P : Nat → Nat) (a j : Nat) : iv (cM b n X M P) a j = cV b n M P a j (iv X a j) := rfl
theorem cM_set {b n : Nat} {X : Mem} {M M' : MM} {P P' : Nat → Nat} {a0 k0 v : Nat} (h : ∀ a j, (if a = a0 ∧ j = k0 then v else cV b n M P a j (iv X a j)) = cV b n M' P' a j (iv X a j)) : wI (cM b n X M P) a0 k0 v = cM b n X M' P' := by
  refine Prod.ext rfl (Prod.ext rfl (Prod.ext rfl (Prod.ext ?_ rfl)))
  funext a j
  exact h a j
theorem cM_same {b n : Nat} {X : Mem} {M M' : MM} {P P' : Nat → Nat} (h : ∀ a j, cV b n M P a j (iv X a j) = cV b n M' P' a j (iv X a j)) : cM b n X M P = cM b n X M' P' := by
  refine Prod.ext rfl (Prod.ext rfl (Prod.ext rfl (Prod.ext ?_ rfl)))
  funext a j
  exact h a j
/-- reading -/
theorem cM_n {b n i : Nat} (hi : i < n) (X : Mem) (M : MM) (P : Nat → Nat) (k : Nat) : iv (cM b n X M P) (na b i) k = cN n M P i k (iv X (na b i) k) := by
  rw [cM_iv, show na b i = b + 6 + 5 * i + 0 from rfl, cV_node hi (by decide), if_pos rfl]
theorem cM_t {b n i j : Nat} (hi : i < n) (hj : j < n) (X : Mem) (M : MM) (P : Nat → Nat) : iv (cM b n X M P) (na b i + 4) j = M 10 (5 * i + j) := by
  rw [cM_iv, show na b i + 4 = b + 6 + 5 * i + 4 from rfl, cV_node hi (by decide), if_neg (by decide), if_pos ⟨rfl, hj⟩]
theorem cM_p1 (b n : Nat) (X : Mem) (M : MM) (P : Nat → Nat) : iv (cM b n X M P) (b + 3) 1 = M 17 0 := by
  rw [cM_iv, cV_pool, if_pos rfl]
theorem cM_p2 (b n : Nat) (X : Mem) (M : MM) (P : Nat → Nat) : iv (cM b n X M P) (b + 3) 2 = M 18 0 := by
  rw [cM_iv, cV_pool, if_neg (by decide), if_pos rfl]
theorem cM_o {b n a : Nat} (h1 : a ≠ b + 3) (h2 : a < b + 6 ∨ b + 7 + 5 * n ≤ a) (X : Mem) (M : MM) (P : Nat → Nat) (j : Nat) : iv (cM b n X M P) a j = iv X a j := by
  rw [cM_iv, cV_out h1 h2]
theorem cM_or {b n a : Nat} (h1 : a ≠ b + 3) (h2 : a < b + 6 ∨ b + 7 + 5 * n ≤ a) (X : Mem) (M : MM) (P : Nat → Nat) : iv (cM b n X M P) a = iv X a := by
  funext j; exact cM_o h1 h2 X M P j
theorem cM_c {b n i j : Nat} (hi : i < j) (hj : j < n) (X : Mem) (M : MM) (P : Nat → Nat) : iv (cM b n X M P) (b + 6 + 5 * n) (i * n + j) = M 16 (5 * i + j) := by
  have h0 : 0 < n := by omega
  have e1 : (i * n + j) / n = i := by rw [Nat.mul_comm, Nat.mul_add_div h0, Nat.div_eq_of_lt hj]; rfl
  have e2 : (i * n + j) % n = j := by rw [Nat.mul_comm, Nat.mul_add_mod, Nat.mod_eq_of_lt hj]
  have e3 : i * n + j < n * n := by
    have : i * n + n ≤ n * n := by rw [← Nat.succ_mul]; exact Nat.mul_le_mul (by omega) (Nat.le_refl n)
    omega
  rw [cM_iv, cV_cut, e1, e2, if_pos ⟨e3, hi⟩]
/-- writing an int field of a node -/
theorem cN_up {n : Nat} {M M' : MM} {P P' : Nat → Nat} {i k0 v : Nat} (h0 : ∀ d, cN n M' P' i k0 d = v) (hk : ∀ k d, k ≠ k0 → cN n M' P' i k d = cN n M P i k d) (k d : Nat) : (if k = k0 then v else cN n M P i k d) = cN n M' P' i k d := by
  by_cases h : k = k0
  · rw [if_pos h, h, h0]
  · rw [if_neg h, hk k d h]
theorem cM_setn {b n i : Nat} (hi : i < n) {X : Mem} {M M' : MM} {P P' : Nat → Nat} {k0 v : Nat} (h0 : ∀ d, cN n M' P' i k0 d = v) (hk : ∀ k d, k ≠ k0 → cN n M' P' i k d = cN n M P i k d) (ho : ∀ j k d, j < n → j ≠ i → cN n M' P' j k d = cN n M P j k d)
    (h10 : ∀ y, M' 10 y = M 10 y) (h16 : ∀ y, M' 16 y = M 16 y) (h17 : M' 17 0 = M 17 0) (h18 : M' 18 0 = M 18 0) : wI (cM b n X M P) (na b i) k0 v = cM b n X M' P' := by
  refine cM_set (fun a j => ?_)
  rcases cV_cases b n a with rfl | rfl | ⟨i', r, hi', hr, rfl⟩ | ⟨h1, h2⟩
  · rw [if_neg (by unfold na; omega), cV_pool, cV_pool, h17, h18]
  · rw [if_neg (by unfold na; omega), cV_cut, cV_cut, h16]
  · rw [cV_node hi' hr, cV_node hi' hr]
    by_cases hr0 : r = 0
    · subst hr0
      rw [if_pos rfl, if_pos rfl]
      by_cases hii : i' = i
      · subst hii
        rw [← cN_up h0 hk]
        by_cases hj : j = k0
        · rw [if_pos ⟨rfl, hj⟩, if_pos hj]
        · rw [if_neg (fun h => hj h.2), if_neg hj]
      · rw [if_neg (by unfold na; omega), ho i' j _ hi' hii]
    · rw [if_neg (by unfold na; omega), if_neg hr0, if_neg hr0, h10]
  · rw [if_neg (by unfold na; omega), cV_out h1 h2, cV_out h1 h2]
theorem vm_up {M : MM} {k i v : Nat} (hk : k ≠ 11) (base : Nat) : ∀ j, vm (up2 M k i v) base j = vm M base j := by
  intro j
  induction j with
  | zero => rfl
  | succ j ih => simp only [vm, ih, up2_ne _ _ (show ¬ (11 = k ∧ base + j = i) from fun h => hk h.1.symm)]
theorem vm_c {M M' : MM} {base : Nat} : ∀ j, (∀ y, y < j → M' 11 (base + y) = M 11 (base + y)) → vm M' base j = vm M base j := by
  intro j
  induction j with
  | zero => intro _; rfl
  | succ j ih => intro h; simp only [vm, ih (fun y hy => h y (by omega)), h j (by omega)]
theorem cM_n9 {b n i : Nat} (hi : i < n) (X : Mem) (M : MM) (P : Nat → Nat) (v : Nat) : wI (cM b n X M P) (na b i) 9 v = cM b n X (up2 M 5 i v) P := by
  refine cM_setn hi (fun d => ?_) (fun q d hq => ?_) (fun j q d _ hj => ?_) (fun y => ?_) (fun y => ?_) ?_ ?_
  · simp [cN, up2]
  · simp [cN, up2, hq, vm_up]
  · simp [cN, up2, hj, vm_up]
  all_goals simp [up2]
theorem cM_n10 {b n i : Nat} (hi : i < n) (X : Mem) (M : MM) (P : Nat → Nat) (v : Nat) : wI (cM b n X M P) (na b i) 10 v = cM b n X (up2 M 6 i v) P := by
  refine cM_setn hi (fun d => ?_) (fun q d hq => ?_) (fun j q d _ hj => ?_) (fun y => ?_) (fun y => ?_) ?_ ?_
  · simp [cN, up2]
  · simp [cN, up2, hq, vm_up]
  · simp [cN, up2, hj, vm_up]
  all_goals simp [up2]
theorem cM_n11 {b n i : Nat} (hi : i < n) (X : Mem) (M : MM) (P : Nat → Nat) (v : Nat) : wI (cM b n X M P) (na b i) 11 v = cM b n X (up2 M 4 i v) P := by
  refine cM_setn hi (fun d => ?_) (fun q d hq => ?_) (fun j q d _ hj => ?_) (fun y => ?_) (fun y => ?_) ?_ ?_
  · simp [cN, up2]
  · simp [cN, up2, hq, vm_up]
  · simp [cN, up2, hj, vm_up]
  all_goals simp [up2]
theorem cM_n13 {b n i : Nat} (hi : i < n) (X : Mem) (M : MM) (P : Nat → Nat) (v : Nat) : wI (cM b n X M P) (na b i) 13 v = cM b n X (up2 M 7 i v) P := by
  refine cM_setn hi (fun d => ?_) (fun q d hq => ?_) (fun j q d _ hj => ?_) (fun y => ?_) (fun y => ?_) ?_ ?_
  · simp [cN, up2]
  · simp [cN, up2, hq, vm_up]
  · simp [cN, up2, hj, vm_up]
  all_goals simp [up2]
theorem cM_n16 {b n i : Nat} (hi : i < n) (X : Mem) (M : MM) (P : Nat → Nat) (v : Nat) : wI (cM b n X M P) (na b i) 16 v = cM b n X (up2 M 8 i v) P := by
  refine cM_setn hi (fun d => ?_) (fun q d hq => ?_) (fun j q d _ hj => ?_) (fun y => ?_) (fun y => ?_) ?_ ?_
  · simp [cN, up2]
  · simp [cN, up2, hq, vm_up]
  · simp [cN, up2, hj, vm_up]
  all_goals simp [up2]
theorem cM_n14 {b n i : Nat} (hi : i < n) (X : Mem) (M : MM) (P : Nat → Nat) (v : Nat) : wI (cM b n X M P) (na b i) 14 v = cM b n X M (va_up P i v) := by
  refine cM_setn hi (fun d => ?_) (fun q d hq => ?_) (fun j q d _ hj => ?_) (fun y => rfl) (fun y => rfl) rfl rfl
  · simp [cN, va_up]
  · simp [cN, hq]
  · simp [cN, va_up, hj]
/-- the voters of node i, by the memory in which they stand -/
theorem cM_n15 {b n i : Nat} (hi : i < n) (hn : n ≤ 5) (X : Mem) (M M' : MM) (P : Nat → Nat) (hM : ∀ x y, M' x y ≠ M x y → x = 11 ∧ 5 * i ≤ y ∧ y < 5 * i + 5) : wI (cM b n X M P) (na b i) 15 (vm M' (5 * i) n) = cM b n X M' P := by
  have e : ∀ x y, x ≠ 11 → M' x y = M x y := fun x y hx => Classical.byContradiction (fun h => hx (hM x y h).1)
  have ev : ∀ j, j < n → j ≠ i → vm M' (5 * j) n = vm M (5 * j) n := fun j hj hji => vm_c n (fun y hy => Classical.byContradiction (fun h => by have := hM 11 _ h; omega))
  refine cM_setn hi (fun d => ?_) (fun q d hq => ?_) (fun j q d hj hji => ?_) (fun y => e 10 y (by decide)) (fun y => e 16 y (by decide)) (e 17 0 (by decide)) (e 18 0 (by decide))
  · simp [cN]
  · simp [cN, hq, e 5 i (by decide), e 6 i (by decide), e 4 i (by decide), e 7 i (by decide), e 8 i (by decide)]
  · simp [cN, e 5 j (by decide), e 6 j (by decide), e 4 j (by decide), e 7 j (by decide), e 8 j (by decide), ev j hj hji]
/-- the pool's ints -/
theorem cM_p17 {b n : Nat} (X : Mem) (M : MM) (P : Nat → Nat) (v : Nat) : wI (cM b n X M P) (b + 3) 1 v = cM b n X (up2 M 17 0 v) P := by
  refine cM_set (fun a j => ?_)
  rcases cV_cases b n a with rfl | rfl | ⟨i', r, hi', hr, rfl⟩ | ⟨h1, h2⟩
  · rw [cV_pool, cV_pool]
    by_cases hj : j = 1
    · rw [if_pos ⟨rfl, hj⟩, if_pos hj, up2_self]
    · rw [if_neg (fun h => hj h.2), if_neg hj, if_neg hj, up2_ne _ _ (by omega)]
  · rw [if_neg (by omega), cV_cut, cV_cut, up2_ne _ _ (by omega)]
  · rw [if_neg (by omega), cV_node hi' hr, cV_node hi' hr]
    simp [cN, up2, vm_up]
  · rw [if_neg (fun h => h1 h.1), cV_out h1 h2, cV_out h1 h2]
theorem cM_p18 {b n : Nat} (X : Mem) (M : MM) (P : Nat → Nat) (v : Nat) : wI (cM b n X M P) (b + 3) 2 v = cM b n X (up2 M 18 0 v) P := by
  refine cM_set (fun a j => ?_)
  rcases cV_cases b n a with rfl | rfl | ⟨i', r, hi', hr, rfl⟩ | ⟨h1, h2⟩
  · rw [cV_pool, cV_pool]
    by_cases hj : j = 2
    · rw [if_pos ⟨rfl, hj⟩, if_neg (by omega), if_pos hj, up2_self]
    · rw [if_neg (fun h => hj h.2), if_neg hj, if_neg hj, up2_ne _ _ (by omega)]
  · rw [if_neg (by omega), cV_cut, cV_cut, up2_ne _ _ (by omega)]
  · rw [if_neg (by omega), cV_node hi' hr, cV_node hi' hr]
    simp [cN, up2, vm_up]
  · rw [if_neg (fun h => h1 h.1), cV_out h1 h2, cV_out h1 h2]
/-- what a node is told -/
theorem cM_told {b n i j0 : Nat} (hi : i < n) (hj0 : j0 < n) (hn : n ≤ 5) (X : Mem) (M : MM) (P : Nat → Nat) (v : Nat) : wI (cM b n X M P) (na b i + 4) j0 v = cM b n X (up2 M 10 (5 * i + j0) v) P := by
  refine cM_set (fun a j => ?_)
  rcases cV_cases b n a with rfl | rfl | ⟨i', r, hi', hr, rfl⟩ | ⟨h1, h2⟩
  · rw [if_neg (by unfold na; omega), cV_pool, cV_pool, up2_ne _ _ (by omega), up2_ne _ _ (by omega)]
  · rw [if_neg (by unfold na; omega), cV_cut, cV_cut, up2_ne _ _ (by omega)]
  · rw [cV_node hi' hr, cV_node hi' hr]
    by_cases h0 : r = 0
    · rw [if_neg (by unfold na; omega), if_pos h0, if_pos h0]
      simp [cN, up2, vm_up]
    · rw [if_neg h0, if_neg h0]
      by_cases h4 : r = 4 ∧ j < n
      · rw [if_pos h4, if_pos h4]
        by_cases hh : i' = i ∧ j = j0
        · rw [if_pos (by unfold na; omega), hh.1, hh.2, up2_self]
        · rw [if_neg (by unfold na; omega), up2_ne _ _ (by omega)]
      · rw [if_neg (by unfold na; omega), if_neg h4, if_neg h4]
  · rw [if_neg (by unfold na; omega), cV_out h1 h2, cV_out h1 h2]
/-- arrays of the reference that the class's fixed ints don't show -/
theorem cM_hid {b n : Nat} (hn : n ≤ 5) (X : Mem) {M M' : MM} (P : Nat → Nat) (h4 : ∀ i, i < n → M' 4 i = M 4 i) (h : ∀ x y, x = 5 ∨ x = 6 ∨ x = 7 ∨ x = 8 ∨ x = 10 ∨ x = 11 ∨ x = 16 ∨ x = 17 ∨ x = 18 → M' x y = M x y) : cM b n X M P = cM b n X M' P := by
  have ev : ∀ j, vm M' (5 * j) n = vm M (5 * j) n := fun j => vm_c n (fun y _ => h 11 _ (by omega))
  refine cM_same (fun a j => ?_)
  rcases cV_cases b n a with rfl | rfl | ⟨i', r, hi', hr, rfl⟩ | ⟨h1, h2⟩
  · rw [cV_pool, cV_pool, h 17 0 (by omega), h 18 0 (by omega)]
  · rw [cV_cut, cV_cut, h 16 _ (by omega)]
  · rw [cV_node hi' hr, cV_node hi' hr, h 10 _ (by omega)]
    simp only [cN, h 5 _ (show _ by omega), h 6 _ (show _ by omega), h 7 _ (show _ by omega), h 8 _ (show _ by omega), h4 i' hi', ev]
  · rw [cV_out h1 h2, cV_out h1 h2]
