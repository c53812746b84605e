/-- memories alike in what Sd reads of nodes below n -/
theorem Sd_rel {b n f : Nat} {X : Mem} {M M' : MM} (h : Sd b n f X M) (e : ∀ x y, x = 2 ∨ x = 3 ∨ x = 16 ∨ x = 17 ∨ x = 19 ∨ x = 20 ∨ x = 21 ∨ x = 22 ∨ x = 23 ∨ x = 24 → M' x y = M x y) (e4 : ∀ y, 5 ≤ y → M' 4 y = M 4 y) (en : ∀ x i j, x = 12 ∨ x = 13 ∨ x = 14 ∨ x = 15 → i < n → j < n → M' x (5 * i + j) = M x (5 * i + j)) : Sd b n f X M' := by
  obtain ⟨h1, ⟨p1, p2⟩, h3, h4, h5, h6, h7, h8, h9⟩ := h
  have e17 : M' 17 0 = M 17 0 := e 17 0 (by omega)
  refine ⟨h1, ⟨fun l l' hl hl' => p1 l l' (by omega) (by omega), fun l hl => p2 l (by omega)⟩, fun l hl => ?_, fun i hi => ?_, fun i j hi hj => ?_, fun i j hi hj => ?_, fun i j hi hj => ?_, h8, h9⟩
  · obtain ⟨q, q1, q2⟩ := h3 l (by omega)
    exact ⟨q, q1, q2.to (fun x hx1 hx2 => e x l (by omega)) (e4 _ (by omega)) (e 3 _ (by omega)) (fun k _ => e 2 _ (by omega))⟩
  · obtain ⟨lg, q1, q2⟩ := h4 i hi
    exact ⟨lg, q1, q2.to (e 3 _ (by omega)) (fun k _ => e 2 _ (by omega))⟩
  · exact (h5 i j hi hj).to (en 12 i j (by omega) hi hj) (en 13 i j (by omega) hi hj) (e4 _ (by omega)) (e 3 _ (by omega)) (fun k _ => e 2 _ (by omega))
  · exact (h6 i j hi hj).to (en 14 i j (by omega) hi hj) (en 15 i j (by omega) hi hj) (e4 _ (by omega)) (e 3 _ (by omega)) (fun k _ => e 2 _ (by omega))
  · rw [e 16 _ (by omega), e 16 _ (by omega)]; exact h7 i j hi hj
/-- a row of places emptied: array x0, the places 5 i .. 5 i + k - 1 -/
def m_rz (M : MM) (x0 i k : Nat) : MM := fun x y => if x = x0 ∧ 5 * i ≤ y ∧ y < 5 * i + k then 0 else M x y
theorem m_rz_0 (M : MM) (x0 i : Nat) : m_rz M x0 i 0 = M := by
  funext x y
  unfold m_rz
  rw [if_neg (by omega)]
theorem m_rz_s (M : MM) (x0 i k : Nat) : up2 (m_rz M x0 i k) x0 (5 * i + k) 0 = m_rz M x0 i (k + 1) := by
  funext x y
  unfold up2 m_rz
  by_cases h1 : x = x0
  · subst h1
    by_cases hy : y = 5 * i + k
    · subst hy; simp
    · have : (5 * i ≤ y ∧ y < 5 * i + k) ↔ (5 * i ≤ y ∧ y < 5 * i + (k + 1)) := by omega
      simp [hy, this]
  · simp [h1]
theorem m_rz_o (M : MM) (x0 i k : Nat) {x y : Nat} (h : x ≠ x0) : m_rz M x0 i k x y = M x y := by
  unfold m_rz; rw [if_neg (fun z => h z.1)]
theorem bM_rz {M : MM} (h : bM M) (x0 i k : Nat) (hx : x0 ≠ 17) : bM (m_rz M x0 i k) := by
  refine ⟨fun x y hk => ?_, ?_⟩
  · unfold m_rz
    split
    · decide
    · exact h.1 x y hk
  · rw [m_rz_o _ _ _ _ (Ne.symm hx)]; exact h.2
theorem J_rz {M : MM} (h : J M) (x0 i k : Nat) (hx : x0 ≠ 2 ∧ x0 ≠ 3 ∧ x0 ≠ 4 ∧ x0 ≠ 17 ∧ x0 ≠ 24) : J (m_rz M x0 i k) := by
  have o : ∀ x y, x = 2 ∨ x = 3 ∨ x = 4 ∨ x = 17 ∨ x = 24 → m_rz M x0 i k x y = M x y := fun x y hx2 => m_rz_o _ _ _ _ (by omega)
  refine J_same h (bM_rz h.1 x0 i k hx.2.2.2.1) (fun u => ⟨o 3 u (by omega), o 4 u (by omega), fun z _ => o 2 _ (by omega)⟩) (fun l hl => ?_)
  rw [o 17 0 (by omega)] at hl
  rw [o 24 l (by omega)]; exact h.2.2.2 l hl
theorem vm_rz (M : MM) (i : Nat) : ∀ n, n ≤ 5 → vm (m_rz M 11 i 5) (5 * i) n = 0 := by
  intro n
  induction n with
  | zero => intro _; rfl
  | succ n ih =>
    intro hn
    have e0 : m_rz M 11 i 5 11 (5 * i + n) = 0 := by unfold m_rz; rw [if_pos (by omega)]
    unfold vm
    rw [ih (by omega), e0, if_pos rfl]
theorem cM_n15z {b n i : Nat} (hi : i < n) (hn : n ≤ 5) (X : Mem) (M : MM) (P : Nat → Nat) : wI (cM b n X M P) (na b i) 15 0 = cM b n X (m_rz M 11 i 5) P := by
  have h := cM_n15 (b := b) hi hn X M (m_rz M 11 i 5) P (fun x y hne => by
    unfold m_rz at hne
    by_cases hc : x = 11 ∧ 5 * i ≤ y ∧ y < 5 * i + 5
    · exact hc
    · rw [if_neg hc] at hne; exact absurd rfl hne)
  rw [vm_rz M i n hn] at h
  exact h
theorem m_fg_at (M : MM) (i x y : Nat) : m_fg M i x y = if x = 8 ∧ y = i then 0 else if (x = 11 ∨ x = 12) ∧ 5 * i ≤ y ∧ y < 5 * i + 5 then 0 else M x y := rfl
theorem J_fg {M : MM} (h : J M) (i : Nat) : J (m_fg M i) := by
  have o : ∀ x y, x = 2 ∨ x = 3 ∨ x = 4 ∨ x = 17 ∨ x = 24 → m_fg M i x y = M x y := fun x y hx2 => by
    rw [m_fg_at, if_neg (by omega), if_neg (by omega)]
  refine J_same h (bM_fg h.1 i) (fun u => ⟨o 3 u (by omega), o 4 u (by omega), fun z _ => o 2 _ (by omega)⟩) (fun l hl => ?_)
  rw [o 17 0 (by omega)] at hl
  rw [o 24 l (by omega)]; exact h.2.2.2 l hl
/-- what forgetVotes leaves is what forget leaves -/
theorem fg_eq {b n f i : Nat} {X : Mem} {M : MM} {P : Nat → Nat} (hn : n ≤ 5) (hi : i < n) (hs : Sd b n f X (m_rz (up2 (m_rz M 11 i 5) 8 i 0) 12 i n)) : cM b n X (m_rz (up2 (m_rz M 11 i 5) 8 i 0) 12 i n) P = cM b n X (m_fg M i) P ∧ Sd b n f X (m_fg M i) := by
  have e : ∀ x y, x ≠ 12 → m_fg M i x y = m_rz (up2 (m_rz M 11 i 5) 8 i 0) 12 i n x y := fun x y hx => by
    rw [m_rz_o _ _ _ _ hx, m_fg_at]
    unfold up2 m_rz
    by_cases h8 : x = 8 ∧ y = i
    · rw [if_pos h8, if_pos h8]
    · rw [if_neg h8, if_neg h8]
      by_cases h11 : x = 11 ∧ 5 * i ≤ y ∧ y < 5 * i + 5
      · rw [if_pos h11, if_pos (by omega)]
      · rw [if_neg h11, if_neg (by omega)]
  refine ⟨cM_hid hn X P (fun u hu => e 4 u (by decide)) (fun x y hx => e x y (by omega)), Sd_rel hs (fun x y hx => e x y (by omega)) (fun y _ => e 4 y (by decide)) (fun x u j hx hu hj => ?_)⟩
  by_cases h12 : x = 12
  · subst h12
    rw [m_fg_at, if_neg (by omega)]
    unfold m_rz
    by_cases hui : u = i
    · rw [if_pos (by omega), if_pos (by omega)]
    · rw [if_neg (by omega), if_neg (by omega), up2_ne _ _ (by omega), if_neg (by omega)]
  · exact e x _ h12
