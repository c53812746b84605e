/-! a crash, a recovery: what the class leaves and what the reference leaves -/
theorem J_emp {M : MM} (h : J M) {i : Nat} (h4 : M 4 i = 0) : J (up2 M 3 i 0) := by
  obtain ⟨h1, h2, h3, h0⟩ := h
  have o : ∀ x z, x ≠ 3 → up2 M 3 i 0 x z = M x z := fun x z hx => up2_ne _ _ (fun w => hx w.1)
  refine ⟨bM_up h1 3 i (by decide), fun g hg => ?_, fun g q hg hq => ?_, fun l hl => ?_⟩
  · rw [o 4 _ (by decide)]
    by_cases hgi : g = i
    · subst hgi; rw [up2_self, h4]; exact ⟨by omega, Nat.le_refl _⟩
    · rw [up2_ne _ _ (fun w => hgi w.2)]; exact h2 g hg
  · rw [o 2 _ (by decide), o 2 _ (by decide), o 2 _ (by decide), o 2 _ (by decide), o 2 _ (by decide)]
    by_cases hgi : g = i
    · subst hgi; rw [up2_self] at hq; exact absurd hq (Nat.not_lt_zero _)
    · rw [up2_ne _ _ (fun w => hgi w.2)] at hq; exact h3 g q hg hq
  · rw [o 17 _ (by decide)] at hl
    rw [o 24 _ (by decide)]; exact h0 l hl
/-- a node takes the empty log; its sure is 0 -/
theorem c_emp {b n f i : Nat} {X : Mem} {M : MM} (P : Nat → Nat) (hs : Sd b n f X M) (hJ : J M) (hi : i < n) (h4 : M 4 i = 0) : cM b n (wR X (na b i) 12 (some (b + 1))) M P = cM b n (wR X (na b i) 12 (some (b + 1))) (up2 M 3 i 0) P ∧ Sd b n f (wR X (na b i) 12 (some (b + 1))) (up2 M 3 i 0) ∧ go b n X (wR X (na b i) 12 (some (b + 1))) ∧ J (up2 M 3 i 0) := by
  have hn5 : n ≤ 5 := by have := g_nf hs; omega
  have o : ∀ x y, x ≠ 3 → up2 M 3 i 0 x y = M x y := fun x y h3 => up2_ne _ _ (fun w => h3 w.1)
  have e3 : up2 M 3 i 0 3 i = 0 := up2_self _ _ _ _
  have hlg : LogAt b n X (b + 1) (up2 M 3 i 0) i := (lg_emp hs).to e3 (fun k hk => absurd hk (Nat.not_lt_zero _))
  obtain ⟨h1, h2⟩ := Sd_lg hs hJ.2.1 hJ.1.2 hi hlg (fun u hu => ⟨up2_ne _ _ (fun w => hu w.2), fun k _ => o 2 _ (by decide)⟩) (fun y _ => o 4 _ (by decide)) (fun x y hx => o x y (by omega))
  exact ⟨cM_hid hn5 _ P (fun u _ => o 4 u (by decide)) (fun x y hx => o x y (by omega)), h1, h2, J_emp hJ h4⟩
/-- tales forgotten: places below n, or all five -/
theorem rz14_eq {b n f i : Nat} {X : Mem} {Z : MM} {P : Nat → Nat} (hn : n ≤ 5) (hs : Sd b n f X (m_rz Z 14 i n)) : cM b n X (m_rz Z 14 i n) P = cM b n X (m_rz Z 14 i 5) P ∧ Sd b n f X (m_rz Z 14 i 5) := by
  have e : ∀ x y, x ≠ 14 → m_rz Z 14 i 5 x y = m_rz Z 14 i n x y := fun x y hx => by
    rw [m_rz_o _ _ _ _ hx, m_rz_o _ _ _ _ hx]
  refine ⟨cM_hid hn X P (fun u hu => e 4 u (by decide)) (fun x y hx => e x y (by omega)), Sd_rel hs (fun x y hx => e x y (by omega)) (fun y _ => e 4 y (by decide)) (fun x u j hx hu hj => ?_)⟩
  by_cases h14 : x = 14
  · subst h14
    unfold m_rz
    by_cases hui : u = i
    · rw [if_pos (by omega), if_pos (by omega)]
    · rw [if_neg (by omega), if_neg (by omega)]
  · exact e x _ h14
theorem cz_eq (Z : MM) (i : Nat) : m_kz (m_rz Z 14 i 5) i 5 = m_cz Z i 5 := by
  funext x y
  unfold m_kz m_rz m_cz
  by_cases h1 : x = 10 ∧ 5 * i ≤ y ∧ y < 5 * i + 5
  · rw [if_pos h1, if_pos (by omega)]
  · rw [if_neg h1]
    by_cases h2 : x = 14 ∧ 5 * i ≤ y ∧ y < 5 * i + 5
    · rw [if_pos h2, if_pos (by omega)]
    · rw [if_neg h2, if_neg (by omega)]
theorem cM_9 {b n : Nat} (hn : n ≤ 5) (X : Mem) (M : MM) (P : Nat → Nat) (i v : Nat) : cM b n X M P = cM b n X (up2 M 9 i v) P :=
  cM_hid hn X P (fun u _ => up2_ne _ _ (by omega)) (fun x y hx => up2_ne _ _ (by omega))
theorem rc1_eq {b n f i c : Nat} {X : Mem} {M : MM} {P : Nat → Nat} (hn : n ≤ 5) (hJ : J M) (hc : c < 2147483648) (hs : Sd b n f X (m_rz (up2 M 5 i 2) 14 i n)) : cM b n X (m_rz (up2 M 5 i 2) 14 i n) P = cM b n X (m_rc1 M i c) P ∧ Sd b n f X (m_rc1 M i c) ∧ J (m_rc1 M i c) := by
  obtain ⟨e1, h1⟩ := rz14_eq (P := P) hn hs
  have e : up2 (m_rz (up2 M 5 i 2) 14 i 5) 9 i c = m_rc1 M i c := by
    funext x y
    unfold m_rc1 m_tz m_rz
    by_cases h14 : x = 14 ∧ 5 * i ≤ y ∧ y < 5 * i + 5
    · rw [up2_ne _ _ (by omega), if_pos h14, if_pos h14]
    · rw [if_neg h14]
      by_cases h9 : x = 9 ∧ y = i
      · rw [h9.1, h9.2, up2_self, up2_self]
      · rw [up2_ne _ _ h9, up2_ne _ _ h9, if_neg h14]
  refine ⟨?_, ?_, ?_⟩
  · rw [e1, ← e]; exact cM_9 hn X _ P i c
  · rw [← e]; exact Sd_to h1 (dq_up (by omega))
  · rw [← e]; exact J_up (J_rz (J_up hJ 5 i (by decide) (Or.inl (by decide))) 14 i 5 (by decide)) 9 i (by decide) (Or.inl hc)
/-- what postAgain does -/
def c_pag (n : Nat) (M : MM) (P : Nat → Nat) (i : Nat) : Nat × MM :=
  if M 5 i = 0 then (if m_fst n M i = 0 then (1, m_pok n M i) else (n - 1, m_pa M i 1 (M 6 i) 0 n))
  else if M 5 i = 1 then (if m_pa M i 3 (M 6 i) 0 n 8 i = 0 then (n - 1, m_pa M i 3 (M 6 i) 0 n) else if m_fst n (m_pa M i 3 (M 6 i) 0 n) i = 0 then (n, c_cast n (m_pa M i 3 (M 6 i) 0 n) i) else (n - 1, m_pa M i 3 (M 6 i) 0 n))
  else if M 5 i = 2 then (n - 1, m_pa M i 6 (M 6 i) (P i) n) else (0, M)
