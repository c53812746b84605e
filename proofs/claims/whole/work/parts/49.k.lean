/-! what every run of calls keeps, of the nodes and of the letters -/
def Kn (n f : Nat) (M : MM) (P : Nat → Nat) (i : Nat) : Prop :=
  M 5 i ≤ 3 ∧ M 6 i ≤ 1000 ∧ M 8 i ≤ 1 ∧ (M 5 i = 0 → M 7 i = M 6 i) ∧ (M 5 i = 1 → f ≤ m_cnt M 11 (5 * i) n → M 8 i ≠ 0) ∧ (M 5 i = 1 → M 12 (5 * i + i) ≠ 0 → M 8 i ≠ 0) ∧ (∀ j, j < n → M 11 (5 * i + j) ≤ 1 ∧ M 15 (5 * i + j) ≤ 1000) ∧ M 10 (5 * i + i) = 0 ∧ (M 5 i = 2 → P i = M 9 i) ∧ P i ≤ 1000000 ∧ (2 ≤ M 5 i → M 6 i = 0) ∧ (M 5 i = 1 → M 12 (5 * i + i) ≠ 0 → M 6 i % n = i)
def Kl (n : Nat) (M : MM) (l : Nat) : Prop :=
  M 19 l < n ∧ M 20 l < n ∧ M 19 l ≠ M 20 l ∧ 1 ≤ M 21 l ∧ M 21 l ≤ 7 ∧ M 22 l ≤ 1000 ∧ (M 21 l = 1 ∨ M 21 l = 5 → M 22 l % n = M 19 l)
def K (n f : Nat) (M : MM) (P : Nat → Nat) : Prop := (∀ i, i < n → Kn n f M P i) ∧ ∀ l, l < M 17 0 → Kl n M l
theorem down_no {M : MM} {i : Nat} (h : c_down M i = 0) (h3 : M 5 i ≤ 3) : M 5 i < 2 := by
  unfold c_down at h
  by_cases h1 : M 5 i = 2
  · rw [if_pos h1] at h; cases h
  · rw [if_neg h1] at h
    by_cases h2 : M 5 i = 3
    · rw [if_pos h2] at h; cases h
    · omega
theorem down_yes {M : MM} {i : Nat} (h : c_down M i ≠ 0) : 2 ≤ M 5 i := by
  unfold c_down at h
  by_cases h1 : M 5 i = 2
  · omega
  · rw [if_neg h1] at h
    by_cases h2 : M 5 i = 3
    · omega
    · rw [if_neg h2] at h; exact absurd rfl h
/-- the tales believed -/
def c_bel (n : Nat) (M : MM) (i : Nat) : MM :=
  if M 14 (5 * i + m_tmx M i n % n) = 0 then M else if M 15 (5 * i + m_tmx M i n % n) = m_tmx M i n then
    up2 (up2 (up2 (m_cp M (30 + 5 * i + m_tmx M i n % n) i) 6 i (m_tmx M i n)) 7 i (m_tmx M i n)) 5 i 0 else M
theorem tal2_bel (n f : Nat) (M : MM) (i : Nat) : m_tal2 n f M i = if m_cnt M 14 (5 * i) n ≤ f then M else c_bel n M i := rfl
theorem J_bel {n : Nat} {M : MM} {i : Nat} (h : J M) (hi : i < n) (hn : n ≤ 5) : J (c_bel n M i) := by
  have ht := m_tmx_lt h.1 i n
  have hm : m_tmx M i n % n < n := Nat.mod_lt _ (by omega)
  unfold c_bel
  split
  · exact h
  · split
    · exact J_up (J_up (J_up (J_cp h (by omega)) 6 i (by decide) (Or.inl ht)) 7 i (by decide) (Or.inl ht)) 5 i (by decide) (Or.inl (by decide))
    · exact h
theorem tmx_0 {M : MM} {i j : Nat} (h : M 14 (5 * i + j) = 0) : m_tmx M i (j + 1) = m_tmx M i j := by rw [m_tmx, if_pos h]
theorem tmx_s {M : MM} {i j : Nat} (h : M 14 (5 * i + j) ≠ 0) : m_tmx M i (j + 1) = m_gre (m_tmx M i j) (M 15 (5 * i + j)) := by rw [m_tmx, if_neg h]
theorem c_ask_le (M : MM) (i l : Nat) : (c_ask M i l).1 ≤ 1 := by
  unfold c_ask; split
  · exact Nat.le_refl 1
  · exact Nat.zero_le 1
