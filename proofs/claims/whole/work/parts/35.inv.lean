/-- what the walks of the class need of the reference's memory -/
def J (M : MM) : Prop := bM M ∧ mL M ∧ mE M ∧ ∀ l, M 17 0 ≤ l → M 24 l = 0
theorem J_up {M : MM} (h : J M) (k y : Nat) {v : Nat} (hk : k ≠ 2 ∧ k ≠ 3 ∧ k ≠ 4 ∧ k ≠ 17 ∧ k ≠ 24) (hv : v < 2147483648 ∨ bk k = false) : J (up2 M k y v) := by
  obtain ⟨h1, h2, h3, h4⟩ := h
  have o : ∀ x z, x = 2 ∨ x = 3 ∨ x = 4 ∨ x = 17 ∨ x = 24 → up2 M k y v x z = M x z := fun x z hx => up2_ne _ _ (by omega)
  refine ⟨?_, fun g hg => ?_, fun g q hg hq => ?_, fun l hl => ?_⟩
  · rcases hv with hv | hv
    · exact bM_up h1 k y hv hk.2.2.2.1
    · exact bM_upx h1 k y hv
  · rw [o 3 _ (by omega), o 4 _ (by omega)]; exact h2 g hg
  · rw [o 3 _ (by omega)] at hq
    rw [o 2 _ (by omega), o 2 _ (by omega), o 2 _ (by omega), o 2 _ (by omega), o 2 _ (by omega)]; exact h3 g q hg hq
  · rw [o 17 _ (by omega)] at hl
    rw [o 24 _ (by omega)]; exact h4 l hl
theorem J_sure {M : MM} (h : J M) (i : Nat) {v : Nat} (hv : v ≤ M 3 i) : J (up2 M 4 i v) := by
  obtain ⟨h1, h2, h3, h4⟩ := h
  have o : ∀ x z, x ≠ 4 → up2 M 4 i v x z = M x z := fun x z hx => up2_ne _ _ (fun w => hx w.1)
  refine ⟨bM_up h1 4 i (Nat.lt_of_le_of_lt hv (h1.1 3 i rfl)), fun g hg => ?_, fun g q hg hq => ?_, fun l hl => ?_⟩
  · rw [o 3 _ (by decide)]
    refine ⟨(h2 g hg).1, ?_⟩
    by_cases hgi : g = i
    · subst hgi; rw [up2_self]; exact hv
    · rw [up2_ne _ _ (fun w => hgi w.2)]; exact (h2 g hg).2
  · rw [o 3 _ (by decide)] at hq
    rw [o 2 _ (by decide), o 2 _ (by decide), o 2 _ (by decide), o 2 _ (by decide), o 2 _ (by decide)]; exact h3 g q hg hq
  · rw [o 17 _ (by decide)] at hl
    rw [o 24 _ (by decide)]; exact h4 l hl
/-- slot t becomes as slot g was, but for its sure -/
theorem J_slt {M M' : MM} {g t : Nat} (h : J M) (hg : g < 295) (hb : bM M') (e : slt M M' g t) (e4 : ∀ y, y ≠ t → M' 4 y = M 4 y) (e4t : M' 4 t ≤ M 3 g) (e17 : M' 17 0 = M 17 0) (e24 : ∀ y, M' 24 y = M 24 y) : J M' := by
  obtain ⟨h1, h2, h3, h4⟩ := h
  refine ⟨hb, fun u hu => ?_, fun u q hu hq => ?_, fun l hl => ?_⟩
  · by_cases hut : u = t
    · subst hut; rw [e.1]; exact ⟨(h2 g hg).1, e4t⟩
    · rw [(e.2.2 u hut).1, e4 u hut]; exact h2 u hu
  · by_cases hut : u = t
    · subst hut
      rw [e.1] at hq
      have h16 := (h2 g hg).1
      have o : ∀ z, z < 6 → M' 2 (96 * u + 6 * q + z) = M 2 (96 * g + 6 * q + z) := fun z hz => by
        rw [Nat.add_assoc, e.2.1 (6 * q + z) (by omega), Nat.add_assoc]
      have o0 := o 0 (by decide)
      simp only [Nat.add_zero] at o0
      rw [o0, o 1 (by decide), o 2 (by decide), o 3 (by decide), o 4 (by decide)]
      exact h3 g q hg hq
    · rw [(e.2.2 u hut).1] at hq
      have h16 := (h2 u hu).1
      have o : ∀ z, z < 6 → M' 2 (96 * u + 6 * q + z) = M 2 (96 * u + 6 * q + z) := fun z hz => by
        rw [Nat.add_assoc, (e.2.2 u hut).2 (6 * q + z) (by omega)]
      have o0 := o 0 (by decide)
      simp only [Nat.add_zero] at o0
      rw [o0, o 1 (by decide), o 2 (by decide), o 3 (by decide), o 4 (by decide)]
      exact h3 u q hu hq
  · rw [e17] at hl
    rw [e24]; exact h4 l hl
theorem J_cp {M : MM} {g t : Nat} (h : J M) (hg : g < 295) : J (m_cp M g t) :=
  J_slt h hg (bM_cp h.1 g t) (slt_cp M g t) (fun y hy => m_cp_4 M g t hy) (by rw [m_cp_4t]; exact (h.2.1 g hg).2) (m_cp_o M g t (by decide)) (fun y => m_cp_o M g t (by decide))
/-- slots as they were -/
theorem J_same {M M' : MM} (h : J M) (hb : bM M') (e : ∀ u, M' 3 u = M 3 u ∧ M' 4 u = M 4 u ∧ ∀ z, z < 96 → M' 2 (96 * u + z) = M 2 (96 * u + z)) (e24 : ∀ l, M' 17 0 ≤ l → M' 24 l = 0) : J M' := by
  obtain ⟨h1, h2, h3, h4⟩ := h
  refine ⟨hb, fun u hu => by rw [(e u).1, (e u).2.1]; exact h2 u hu, fun u q hu hq => ?_, e24⟩
  rw [(e u).1] at hq
  have h16 := (h2 u hu).1
  have o : ∀ z, z < 6 → M' 2 (96 * u + 6 * q + z) = M 2 (96 * u + 6 * q + z) := fun z hz => by
    rw [Nat.add_assoc, (e u).2.2 (6 * q + z) (by omega)]
  have o0 := o 0 (by decide)
  simp only [Nat.add_zero] at o0
  rw [o0, o 1 (by decide), o 2 (by decide), o 3 (by decide), o 4 (by decide)]
  exact h3 u q hu hq
theorem m_post_no {M : MM} {i j k v c : Nat} (h : M 17 0 ≠ 240) (hk : m_hl k = 0) : ∀ u, m_post M i j k v c 3 u = M 3 u ∧ m_post M i j k v c 4 u = M 4 u ∧ ∀ z, m_post M i j k v c 2 z = M 2 z := by
  have e : m_post M i j k v c = up2 (m_p5 M i j k v c) 17 0 (M 17 0 + 1) := by simp only [m_post, if_neg h, if_pos hk]
  rw [e]
  have o : ∀ x y, x = 2 ∨ x = 3 ∨ x = 4 → up2 (m_p5 M i j k v c) 17 0 (M 17 0 + 1) x y = M x y := fun x y hx => by
    rw [up2_ne _ _ (by omega), m_p5_ne _ _ _ _ _ _ (by omega)]
  exact fun u => ⟨o 3 u (by omega), o 4 u (by omega), fun z => o 2 z (by omega)⟩
theorem J_post {M : MM} (h : J M) {i j k v c : Nat} (hi : i < 295) (hj : j < 2147483648) (hk : k < 2147483648) (hv : v < 2147483648) (hc : c < 2147483648) : J (m_post M i j k v c) := by
  have hb : bM (m_post M i j k v c) := bM_post h.1 (by omega) hj hk hv hc
  by_cases h240 : M 17 0 = 240
  · have e : m_post M i j k v c = up2 M 18 0 (M 18 0 + 1) := by simp only [m_post, if_pos h240]
    rw [e]; exact J_up h 18 0 (by decide) (Or.inr rfl)
  · obtain ⟨b1, -, -, b8, -, b9, b10, b11⟩ := pq_post (i := i) (j := j) (k := k) (v := v) (c := c) h240
    have e24 : ∀ y, m_post M i j k v c 24 y = M 24 y := fun y => b8 24 y (by decide) (by decide) (by decide) (by decide) (by decide) (by decide) (by decide) (by decide) (by decide)
    have h24 : ∀ l, m_post M i j k v c 17 0 ≤ l → m_post M i j k v c 24 l = 0 := fun l hl => by rw [e24]; exact h.2.2.2 l (by omega)
    by_cases hk0 : m_hl k = 0
    · have no := m_post_no (i := i) (j := j) (v := v) (c := c) h240 hk0
      exact J_same h hb (fun u => ⟨(no u).1, (no u).2.1, fun z _ => (no u).2.2 _⟩) h24
    · obtain ⟨c1, c2⟩ := b11 hk0
      have hJ : ∀ (M2 : MM), M2 = m_post M i j k v c → J M2 := by
        intro M2 hM2
        obtain ⟨h1, h2, h3, h4⟩ := h
        subst hM2
        refine ⟨hb, fun u hu => ?_, fun u q hu hq => ?_, h24⟩
        · by_cases hut : u = 55 + M 17 0
          · subst hut; rw [c2.1, c1]; exact h2 i hi
          · rw [(c2.2.2 u hut).1, b9 u hut]; exact h2 u hu
        · by_cases hut : u = 55 + M 17 0
          · subst hut
            rw [c2.1] at hq
            have h16 := (h2 i hi).1
            have o : ∀ z, z < 6 → m_post M i j k v c 2 (96 * (55 + M 17 0) + 6 * q + z) = M 2 (96 * i + 6 * q + z) := fun z hz => by
              rw [Nat.add_assoc, c2.2.1 (6 * q + z) (by omega), Nat.add_assoc]
            have o0 := o 0 (by decide)
            simp only [Nat.add_zero] at o0
            rw [o0, o 1 (by decide), o 2 (by decide), o 3 (by decide), o 4 (by decide)]
            exact h3 i q hi hq
          · rw [(c2.2.2 u hut).1] at hq
            have h16 := (h2 u hu).1
            have o : ∀ z, z < 6 → m_post M i j k v c 2 (96 * u + 6 * q + z) = M 2 (96 * u + 6 * q + z) := fun z hz => by
              rw [Nat.add_assoc, (c2.2.2 u hut).2 (6 * q + z) (by omega)]
            have o0 := o 0 (by decide)
            simp only [Nat.add_zero] at o0
            rw [o0, o 1 (by decide), o 2 (by decide), o 3 (by decide), o 4 (by decide)]
            exact h3 u q hu hq
      exact hJ _ rfl
theorem m_post_o (M : MM) (i j k v c : Nat) {x y : Nat} (h : x ≠ 2 ∧ x ≠ 3 ∧ x ≠ 4 ∧ x ≠ 17 ∧ x ≠ 18 ∧ x ≠ 19 ∧ x ≠ 20 ∧ x ≠ 21 ∧ x ≠ 22 ∧ x ≠ 23) : m_post M i j k v c x y = M x y := by
  by_cases h240 : M 17 0 = 240
  · simp only [m_post, if_pos h240]
    exact up2_ne _ _ (by omega)
  · exact (pq_post (i := i) (j := j) (k := k) (v := v) (c := c) h240).2.2.2.1 x y (by omega) (by omega) (by omega) (by omega) (by omega) (by omega) (by omega) (by omega) (by omega)
theorem m_post_s (M : MM) (i j k v c : Nat) {u : Nat} (h : u ≠ 55 + M 17 0) : m_post M i j k v c 3 u = M 3 u ∧ m_post M i j k v c 4 u = M 4 u := by
  by_cases h240 : M 17 0 = 240
  · simp only [m_post, if_pos h240]
    exact ⟨up2_ne _ _ (by omega), up2_ne _ _ (by omega)⟩
  · obtain ⟨-, -, -, -, -, b9, b10, -⟩ := pq_post (i := i) (j := j) (k := k) (v := v) (c := c) h240
    exact ⟨(b10 u h).1, b9 u h⟩
theorem m_pa_o (M : MM) (i k v c : Nat) {x y : Nat} (h : x ≠ 2 ∧ x ≠ 3 ∧ x ≠ 4 ∧ x ≠ 17 ∧ x ≠ 18 ∧ x ≠ 19 ∧ x ≠ 20 ∧ x ≠ 21 ∧ x ≠ 22 ∧ x ≠ 23) : ∀ j, m_pa M i k v c j x y = M x y := by
  intro j
  induction j with
  | zero => rfl
  | succ j ih =>
    unfold m_pa
    split
    · exact ih
    · rw [m_post_o _ _ _ _ _ _ h]; exact ih
theorem m_pa_s (M : MM) (i k v c : Nat) {u : Nat} (h : u < 55) : ∀ j, m_pa M i k v c j 3 u = M 3 u ∧ m_pa M i k v c j 4 u = M 4 u := by
  intro j
  induction j with
  | zero => exact ⟨rfl, rfl⟩
  | succ j ih =>
    unfold m_pa
    split
    · exact ih
    · obtain ⟨e1, e2⟩ := m_post_s (m_pa M i k v c j) i j k v c (u := u) (by omega)
      exact ⟨e1.trans ih.1, e2.trans ih.2⟩
theorem J_pa {M : MM} (h : J M) {i k v c : Nat} (hi : i < 295) (hk : k < 2147483648) (hv : v < 2147483648) (hc : c < 2147483648) : ∀ j, j < 2147483648 → J (m_pa M i k v c j) := by
  intro j
  induction j with
  | zero => intro _; exact h
  | succ j ih =>
    intro hj
    unfold m_pa
    split
    · exact ih (by omega)
    · exact J_post (ih (by omega)) hi (by omega) hk hv hc
