theorem m_p5_at (M : MM) (i j k v c : Nat) : m_p5 M i j k v c 19 (M 17 0) = i ∧ m_p5 M i j k v c 20 (M 17 0) = j ∧ m_p5 M i j k v c 21 (M 17 0) = k ∧ m_p5 M i j k v c 22 (M 17 0) = v ∧ m_p5 M i j k v c 23 (M 17 0) = c := by
  simp [m_p5, up2]
theorem m_p5_ne (M : MM) (i j k v c : Nat) {x y : Nat} (h : y ≠ M 17 0 ∨ (x ≠ 19 ∧ x ≠ 20 ∧ x ≠ 21 ∧ x ≠ 22 ∧ x ≠ 23)) : m_p5 M i j k v c x y = M x y := by
  unfold m_p5
  rw [up2_ne _ _ (by omega), up2_ne _ _ (by omega), up2_ne _ _ (by omega), up2_ne _ _ (by omega), up2_ne _ _ (by omega)]
/-- what a posted letter changes -/
def pq (M M' : MM) (i j k v c : Nat) : Prop :=
  M' 17 0 = M 17 0 + 1 ∧ (M' 19 (M 17 0) = i ∧ M' 20 (M 17 0) = j ∧ M' 21 (M 17 0) = k ∧ M' 22 (M 17 0) = v ∧ M' 23 (M 17 0) = c) ∧
  (∀ x y, x = 19 ∨ x = 20 ∨ x = 21 ∨ x = 22 ∨ x = 23 → y ≠ M 17 0 → M' x y = M x y) ∧
  (∀ x y, x ≠ 2 → x ≠ 3 → x ≠ 4 → x ≠ 17 → x ≠ 19 → x ≠ 20 → x ≠ 21 → x ≠ 22 → x ≠ 23 → M' x y = M x y) ∧
  (∀ y, y ≠ 0 → M' 17 y = M 17 y) ∧ (∀ y, y ≠ 55 + M 17 0 → M' 4 y = M 4 y) ∧
  (∀ u, u ≠ 55 + M 17 0 → M' 3 u = M 3 u ∧ ∀ z, z < 96 → M' 2 (96 * u + z) = M 2 (96 * u + z)) ∧
  (m_hl k ≠ 0 → M' 4 (55 + M 17 0) = M 4 i ∧ slt M M' i (55 + M 17 0))
theorem pq_post {M : MM} {i j k v c : Nat} (h : M 17 0 ≠ 240) : pq M (m_post M i j k v c) i j k v c := by
  obtain ⟨a1, a2, a3, a4, a5⟩ := m_p5_at M i j k v c
  have ne : ∀ x y, y ≠ M 17 0 ∨ (x ≠ 19 ∧ x ≠ 20 ∧ x ≠ 21 ∧ x ≠ 22 ∧ x ≠ 23) → m_p5 M i j k v c x y = M x y := fun x y => m_p5_ne M i j k v c
  have s3 : ∀ y, m_p5 M i j k v c 3 y = M 3 y := fun y => ne 3 y (by omega)
  have s2 : ∀ y, m_p5 M i j k v c 2 y = M 2 y := fun y => ne 2 y (by omega)
  have s4 : ∀ y, m_p5 M i j k v c 4 y = M 4 y := fun y => ne 4 y (by omega)
  by_cases hk : m_hl k = 0
  · have e : m_post M i j k v c = up2 (m_p5 M i j k v c) 17 0 (M 17 0 + 1) := by simp only [m_post, if_neg h, if_pos hk]
    rw [e]
    have o : ∀ x y, x ≠ 17 → up2 (m_p5 M i j k v c) 17 0 (M 17 0 + 1) x y = m_p5 M i j k v c x y := fun x y z => up2_ne _ _ (fun w => z w.1)
    refine ⟨up2_self _ _ _ _, ⟨?_, ?_, ?_, ?_, ?_⟩, fun x y hx hy => ?_, fun x y x1 x2 x3 x4 x5 x6 x7 x8 x9 => ?_, fun y hy => ?_, fun y hy => ?_, fun u hu => ⟨?_, fun z hz => ?_⟩, fun z => absurd hk z⟩
    · rw [o _ _ (by decide), a1]
    · rw [o _ _ (by decide), a2]
    · rw [o _ _ (by decide), a3]
    · rw [o _ _ (by decide), a4]
    · rw [o _ _ (by decide), a5]
    · rw [o _ _ (by omega), ne _ _ (by omega)]
    · rw [o _ _ (by omega), ne _ _ (by omega)]
    · rw [up2_ne _ _ (by omega), ne _ _ (by omega)]
    · rw [o _ _ (by decide), s4]
    · rw [o _ _ (by decide), s3]
    · rw [o _ _ (by decide), s2]
  · have e : m_post M i j k v c = up2 (m_cp (m_p5 M i j k v c) i (55 + M 17 0)) 17 0 (M 17 0 + 1) := by simp only [m_post, if_neg h, if_neg hk]
    rw [e]
    have o : ∀ x y, x ≠ 17 → up2 (m_cp (m_p5 M i j k v c) i (55 + M 17 0)) 17 0 (M 17 0 + 1) x y = m_cp (m_p5 M i j k v c) i (55 + M 17 0) x y := fun x y z => up2_ne _ _ (fun w => z w.1)
    have o2 : ∀ x y, x ≠ 17 → x ≠ 2 → x ≠ 3 → x ≠ 4 → up2 (m_cp (m_p5 M i j k v c) i (55 + M 17 0)) 17 0 (M 17 0 + 1) x y = m_p5 M i j k v c x y := fun x y z1 z2 z3 z4 => by rw [o x y z1, m_cp_o _ _ _ ⟨z2, z3, z4⟩]
    obtain ⟨c1, c2, c3⟩ := slt_cp (m_p5 M i j k v c) i (55 + M 17 0)
    refine ⟨up2_self _ _ _ _, ⟨?_, ?_, ?_, ?_, ?_⟩, fun x y hx hy => ?_, fun x y x1 x2 x3 x4 x5 x6 x7 x8 x9 => ?_, fun y hy => ?_, fun y hy => ?_, fun u hu => ⟨?_, fun z hz => ?_⟩, fun _ => ⟨?_, ?_, fun z hz => ?_, fun u hu => ⟨?_, fun z hz => ?_⟩⟩⟩
    · rw [o2 _ _ (by decide) (by decide) (by decide) (by decide), a1]
    · rw [o2 _ _ (by decide) (by decide) (by decide) (by decide), a2]
    · rw [o2 _ _ (by decide) (by decide) (by decide) (by decide), a3]
    · rw [o2 _ _ (by decide) (by decide) (by decide) (by decide), a4]
    · rw [o2 _ _ (by decide) (by decide) (by decide) (by decide), a5]
    · rw [o2 _ _ (by omega) (by omega) (by omega) (by omega), ne _ _ (by omega)]
    · rw [o2 _ _ (by omega) (by omega) (by omega) (by omega), ne _ _ (by omega)]
    · rw [up2_ne _ _ (by omega), m_cp_o _ _ _ (by omega), ne _ _ (by omega)]
    · rw [o _ _ (by decide), m_cp_4 _ _ _ hy, s4]
    · rw [o _ _ (by decide), (c3 u hu).1, s3]
    · rw [o _ _ (by decide), (c3 u hu).2 z hz, s2]
    · rw [o _ _ (by decide), m_cp_4t, s4]
    · rw [o _ _ (by decide), c1, s3]
    · rw [o _ _ (by decide), c2 z hz, s2]
    · rw [o _ _ (by decide), (c3 u hu).1, s3]
    · rw [o _ _ (by decide), (c3 u hu).2 z hz, s2]
/-- a letter as it would be written -/
def Lw (b n : Nat) (X : Mem) (M : MM) (q i j k v c : Nat) : Prop :=
  (kd X q = 1 ∧ iv X q 0 = i ∧ iv X q 1 = j ∧ iv X q 2 = k ∧ iv X q 3 = v ∧ iv X q 5 = c ∧ iv X q 7 = 0) ∧ ∃ lg, rv X q 6 = some lg ∧ (m_hl k ≠ 0 → iv X q 4 = M 4 i ∧ LogAt b n X lg M i) ∧ (m_hl k = 0 → iv X q 4 = 0 ∧ lg = b + 1)
theorem Sd_post {b n f : Nat} {X : Mem} {M : MM} {q i j k v c : Nat} (h : Sd b n f X M) (hL : mL M) (h17 : M 17 0 < 240) (hi : i < 295) (hw : Lw b n X M q i j k v c) (h24 : M 24 (M 17 0) = 0) (hq : ∀ l, l < M 17 0 → rv X (b + 4) l ≠ some q) : Sd b n f (wR X (b + 4) (M 17 0) (some q)) (m_post M i j k v c) ∧ go b n X (wR X (b + 4) (M 17 0) (some q)) := by
  have pp := pq_post (i := i) (j := j) (k := k) (v := v) (c := c) (show M 17 0 ≠ 240 by omega)
  generalize m_post M i j k v c = M' at pp ⊢
  obtain ⟨b1, ⟨b2, b3, b4, b5, b6⟩, b7, b8, -, b9, b10, b11⟩ := pp
  obtain ⟨h1, ⟨p1, p2⟩, h3, h4, h5, h6, hcu, h8, h9⟩ := h
  have hn5 : n ≤ 5 := by have := h1.2.2.2.2.2.2; omega
  have kn : kd X (b + 4) = 9 := h1.2.2.1.2.2.1
  have k0 : go b n X (wR X (b + 4) (M 17 0) (some q)) := go_wR (by rw [kn]; decide) (by rw [kn]; decide) (by omega)
  have hr : ∀ a z, ¬ (a = b + 4 ∧ z = M 17 0) → rv (wR X (b + 4) (M 17 0) (some q)) a z = rv X a z := fun a z w => up2_ne _ _ w
  have hrs : rv (wR X (b + 4) (M 17 0) (some q)) (b + 4) (M 17 0) = some q := up2_self _ _ _ _
  have e24 : ∀ y, M' 24 y = M 24 y := fun y => b8 24 y (by decide) (by decide) (by decide) (by decide) (by decide) (by decide) (by decide) (by decide) (by decide)
  refine ⟨⟨h1.go k0 (fun a ha => up2_row _ _ (by omega)) (fun u hu => ⟨rfl, rfl, rfl, fun z z1 z2 => hr _ _ (by unfold na; omega)⟩), ⟨fun l l' hl hl' e => ?_, fun l hl hl2 => ?_⟩, fun l hl => ?_, fun u hu => ?_, fun u z hu hz => ?_, fun u z hu hz => ?_, fun u z hu hz => ?_, h8, h9⟩, k0⟩
  · by_cases hl1 : l = M 17 0
    · by_cases hl2 : l' = M 17 0
      · omega
      · subst hl1
        rw [hrs, hr _ _ (by omega)] at e
        exact absurd e.symm (hq l' (by omega))
    · by_cases hl2 : l' = M 17 0
      · subst hl2
        rw [hrs, hr _ _ (by omega)] at e
        exact absurd e (hq l (by omega))
      · rw [hr _ _ (by omega), hr _ _ (by omega)] at e
        exact p1 l l' (by omega) (by omega) e
  · rw [hr _ _ (by omega)]; exact p2 l (by omega) hl2
  · by_cases hl1 : l = M 17 0
    · subst hl1
      obtain ⟨⟨w1, w2, w3, w4, w5, w6, w7⟩, lg, w8, w9, w10⟩ := hw
      refine ⟨q, hrs, ⟨w1, by rw [b2]; exact w2, by rw [b3]; exact w3, by rw [b4]; exact w4, by rw [b5]; exact w5, by rw [b6]; exact w6, by rw [e24, h24]; exact w7⟩, lg, (k0.2.2.2.2.1 q w1).1.trans w8, fun z => ?_, fun z => ?_⟩
      · rw [b4] at z
        exact ⟨by rw [(b11 z).1]; exact (w9 z).1, LogAt_slg ((w9 z).2.go k0) (b11 z).2 (hL i hi).1⟩
      · rw [b4] at z
        exact w10 z
    · obtain ⟨q', q1, q2⟩ := h3 l (by omega)
      have hl16 := (hL (55 + l) (by omega)).1
      exact ⟨q', by rw [hr _ _ (by omega)]; exact q1, (q2.go k0 rfl).to (fun x hx1 hx2 => Classical.byCases (fun h24 : x = 24 => by rw [h24]; exact e24 l) (fun h24 => b7 x l (by omega) hl1)) (b9 _ (by omega)) (b10 _ (by omega)).1 (fun z hz => (b10 _ (by omega)).2 z (by omega))⟩
  · obtain ⟨lg', q1, q2⟩ := h4 u hu
    have := (hL u (by omega)).1
    exact ⟨lg', by rw [hr _ _ (by unfold na; omega)]; exact q1, (q2.go k0).to (b10 _ (by omega)).1 (fun z hz => (b10 _ (by omega)).2 z (by omega))⟩
  · have := (hL (5 + 5 * u + z) (by omega)).1
    exact ((h5 u z hu hz).go k0 (hr _ _ (by unfold na; omega))).to (b8 12 _ (by decide) (by decide) (by decide) (by decide) (by decide) (by decide) (by decide) (by decide) (by decide)) (b8 13 _ (by decide) (by decide) (by decide) (by decide) (by decide) (by decide) (by decide) (by decide) (by decide)) (b9 _ (by omega)) (b10 _ (by omega)).1 (fun w hw => (b10 _ (by omega)).2 w (by omega))
  · have := (hL (30 + 5 * u + z) (by omega)).1
    exact ((h6 u z hu hz).go k0 (hr _ _ (by unfold na; omega))).to (b8 14 _ (by decide) (by decide) (by decide) (by decide) (by decide) (by decide) (by decide) (by decide) (by decide)) (b8 15 _ (by decide) (by decide) (by decide) (by decide) (by decide) (by decide) (by decide) (by decide) (by decide)) (b9 _ (by omega)) (b10 _ (by omega)).1 (fun w hw => (b10 _ (by omega)).2 w (by omega))
  · rw [b8 16 _ (by decide) (by decide) (by decide) (by decide) (by decide) (by decide) (by decide) (by decide) (by decide), b8 16 _ (by decide) (by decide) (by decide) (by decide) (by decide) (by decide) (by decide) (by decide) (by decide)]; exact hcu u z hu hz
/-- the pool's number behind a letter posted -/
theorem cM_post {b n : Nat} (hn : n ≤ 5) (X : Mem) {M : MM} (P : Nat → Nat) {i j k v c : Nat} (h : M 17 0 ≠ 240) : wI (cM b n X M P) (b + 3) 1 (M 17 0 + 1) = cM b n X (m_post M i j k v c) P := by
  rw [cM_p17]
  obtain ⟨b1, -, -, b8, b17, b9, -, -⟩ := pq_post (i := i) (j := j) (k := k) (v := v) (c := c) h
  refine cM_hid hn X P (fun u hu => ?_) (fun x y hx => ?_)
  · rw [up2_ne _ _ (by omega)]; exact b9 u (by omega)
  · by_cases h17 : x = 17
    · subst h17
      by_cases hy : y = 0
      · subst hy; rw [up2_self]; exact b1
      · rw [up2_ne _ _ (by omega)]; exact b17 y hy
    · rw [up2_ne _ _ (by omega)]
      exact b8 x y (by omega) (by omega) (by omega) h17 (by omega) (by omega) (by omega) (by omega) (by omega)
