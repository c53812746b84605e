/-- memories of the reference that are alike in what Sd reads -/
def dq (M M' : MM) : Prop := (∀ x y, x = 2 ∨ x = 3 ∨ x = 12 ∨ x = 13 ∨ x = 14 ∨ x = 15 ∨ x = 16 ∨ x = 17 ∨ x = 19 ∨ x = 20 ∨ x = 21 ∨ x = 22 ∨ x = 23 ∨ x = 24 → M' x y = M x y) ∧ ∀ y, 5 ≤ y → M' 4 y = M 4 y
theorem dq_up {M : MM} {k y v : Nat} (h : k = 5 ∨ k = 6 ∨ k = 7 ∨ k = 8 ∨ k = 9 ∨ k = 10 ∨ k = 11 ∨ k = 18 ∨ k = 25 ∨ (k = 4 ∧ y < 5)) : dq M (up2 M k y v) :=
  ⟨fun x z hx => up2_ne _ _ (by omega), fun z hz => up2_ne _ _ (by omega)⟩
theorem dq_tr {M M' M'' : MM} (h : dq M M') (k : dq M' M'') : dq M M'' := ⟨fun x y hx => (k.1 x y hx).trans (h.1 x y hx), fun y hy => (k.2 y hy).trans (h.2 y hy)⟩
theorem Vt.to {b n : Nat} {X : Mem} {M M' : MM} {i j : Nat} (h : Vt b n X M i j) (e12 : M' 12 (5 * i + j) = M 12 (5 * i + j)) (e13 : M' 13 (5 * i + j) = M 13 (5 * i + j)) (e4 : M' 4 (5 + 5 * i + j) = M 4 (5 + 5 * i + j)) (e3 : M' 3 (5 + 5 * i + j) = M 3 (5 + 5 * i + j)) (e2 : ∀ k, k < 6 * M 3 (5 + 5 * i + j) → M' 2 (96 * (5 + 5 * i + j) + k) = M 2 (96 * (5 + 5 * i + j) + k)) : Vt b n X M' i j := by
  refine ⟨fun e => h.1 (by rw [← e12]; exact e), fun e => ?_⟩
  obtain ⟨q, lg, h1, h2, h3, h4, h5, h6⟩ := h.2 (by rw [← e12]; exact e)
  exact ⟨q, lg, h1, h2, by rw [e4]; exact h3, by rw [e13]; exact h4, h5, h6.to e3 e2⟩
theorem Tl.to {b n : Nat} {X : Mem} {M M' : MM} {i j : Nat} (h : Tl b n X M i j) (e14 : M' 14 (5 * i + j) = M 14 (5 * i + j)) (e15 : M' 15 (5 * i + j) = M 15 (5 * i + j)) (e4 : M' 4 (30 + 5 * i + j) = M 4 (30 + 5 * i + j)) (e3 : M' 3 (30 + 5 * i + j) = M 3 (30 + 5 * i + j)) (e2 : ∀ k, k < 6 * M 3 (30 + 5 * i + j) → M' 2 (96 * (30 + 5 * i + j) + k) = M 2 (96 * (30 + 5 * i + j) + k)) : Tl b n X M' i j := by
  refine ⟨fun e => h.1 (by rw [← e14]; exact e), fun e => ?_⟩
  obtain ⟨q, lg, h1, h2, h3, h4, h5, h6⟩ := h.2 (by rw [← e14]; exact e)
  exact ⟨q, lg, h1, h2, by rw [e15]; exact h3, by rw [e4]; exact h4, h5, h6.to e3 e2⟩
theorem Lt.to {b n : Nat} {X : Mem} {M M' : MM} {l q : Nat} (h : Lt b n X M l q) (e : ∀ x, 19 ≤ x → x ≤ 24 → M' x l = M x l) (e4 : M' 4 (55 + l) = M 4 (55 + l)) (e3 : M' 3 (55 + l) = M 3 (55 + l)) (e2 : ∀ k, k < 6 * M 3 (55 + l) → M' 2 (96 * (55 + l) + k) = M 2 (96 * (55 + l) + k)) : Lt b n X M' l q := by
  obtain ⟨⟨a1, a2, a3, a4, a5, a6, a7⟩, lg, h1, h2, h3⟩ := h
  have e21 := e 21 (by decide) (by decide)
  refine ⟨⟨a1, by rw [e 19 (by decide) (by decide)]; exact a2, by rw [e 20 (by decide) (by decide)]; exact a3, by rw [e21]; exact a4, by rw [e 22 (by decide) (by decide)]; exact a5, by rw [e 23 (by decide) (by decide)]; exact a6, by rw [e 24 (by decide) (by decide)]; exact a7⟩, lg, h1, fun z => ?_, fun z => h3 (by rw [← e21]; exact z)⟩
  obtain ⟨z1, z2⟩ := h2 (by rw [← e21]; exact z)
  exact ⟨by rw [e4]; exact z1, z2.to e3 e2⟩
theorem Sd_to {b n f : Nat} {X : Mem} {M M' : MM} (h : Sd b n f X M) (e : dq M M') : Sd b n f X M' := by
  obtain ⟨h1, ⟨p1, p2⟩, h3, h4, h5, h6, h7, h8, h9⟩ := h
  have e17 : M' 17 0 = M 17 0 := e.1 17 0 (by omega)
  refine ⟨h1, ⟨fun l l' hl hl' => p1 l l' (by rw [← e17]; exact hl) (by rw [← e17]; exact hl'), fun l hl => p2 l (by rw [← e17]; exact hl)⟩, fun l hl => ?_, fun i hi => ?_, fun i j hi hj => ?_, fun i j hi hj => ?_, fun i j hi hj => ?_, h8, h9⟩
  · obtain ⟨q, q1, q2⟩ := h3 l (by rw [← e17]; exact hl)
    exact ⟨q, q1, q2.to (fun x hx1 hx2 => e.1 x l (by omega)) (e.2 _ (by omega)) (e.1 3 _ (by omega)) (fun k _ => e.1 2 _ (by omega))⟩
  · obtain ⟨lg, q1, q2⟩ := h4 i hi
    exact ⟨lg, q1, q2.to (e.1 3 _ (by omega)) (fun k _ => e.1 2 _ (by omega))⟩
  · exact (h5 i j hi hj).to (e.1 12 _ (by omega)) (e.1 13 _ (by omega)) (e.2 _ (by omega)) (e.1 3 _ (by omega)) (fun k _ => e.1 2 _ (by omega))
  · exact (h6 i j hi hj).to (e.1 14 _ (by omega)) (e.1 15 _ (by omega)) (e.2 _ (by omega)) (e.1 3 _ (by omega)) (fun k _ => e.1 2 _ (by omega))
  · rw [e.1 16 _ (by omega), e.1 16 _ (by omega)]; exact h7 i j hi hj
/-- other cells -/
theorem Sd_kept {b n f : Nat} {X Y : Mem} {M : MM} (h : Sd b n f X M) (k : go b n X Y) (hr : ∀ a, a < b + 7 + 5 * n → rv Y a = rv X a) (hn : ∀ i, i < n → iv Y (na b i) 0 = iv X (na b i) 0 ∧ iv Y (na b i) 1 = iv X (na b i) 1 ∧ iv Y (na b i) 2 = iv X (na b i) 2) (h7 : ∀ q, kd X q = 1 → iv Y q 7 = iv X q 7) (hc : iv Y (b + 6 + 5 * n) = iv X (b + 6 + 5 * n)) : Sd b n f Y M := by
  obtain ⟨h1, ⟨p1, p2⟩, h3, h4, h5, h6, hcu, h8, h9⟩ := h
  have r4 := hr (b + 4) (by omega)
  refine ⟨h1.go k (fun a ha => hr a (by omega)) (fun i hi => ⟨(hn i hi).1, (hn i hi).2.1, (hn i hi).2.2, fun q _ _ => by rw [hr _ (by unfold na; omega)]⟩), ⟨fun l l' hl hl' => by rw [r4]; exact p1 l l' hl hl', fun l hl hl2 => by rw [r4]; exact p2 l hl hl2⟩, fun l hl => ?_, fun i hi => ?_, fun i j hi hj => ?_, fun i j hi hj => ?_, fun i j hi hj => ?_, Nat.le_trans h8 k.1, fun a ha ha2 => ?_⟩
  · obtain ⟨q, q1, q2⟩ := h3 l hl
    exact ⟨q, by rw [r4]; exact q1, q2.go k (h7 q q2.1.1)⟩
  · obtain ⟨lg, q1, q2⟩ := h4 i hi
    exact ⟨lg, by rw [hr _ (by unfold na; omega)]; exact q1, q2.go k⟩
  · exact (h5 i j hi hj).go k (by rw [hr _ (by unfold na; omega)])
  · exact (h6 i j hi hj).go k (by rw [hr _ (by unfold na; omega)])
  · rw [hc]; exact hcu i j hi hj
  · obtain ⟨z1, z2, z3⟩ := h9 a ha ha2
    rw [(k.2.1 a z3).1]; exact ⟨z1, z2, z3⟩
theorem Sd_fr {b n f : Nat} {X Y : Mem} {M : MM} (h : Sd b n f X M) (k : fr X Y) (hl : ∀ a, kd X a ≠ 0 → a < nx X) : Sd b n f Y M := by
  have h8 := h.2.2.2.2.2.2.2.1
  unfold he at h8
  refine Sd_kept h (go_fr k hl h.2.2.2.2.2.2.2.1) (fun a ha => (k.2 a (by omega)).2.2.2) (fun i hi => ?_) (fun q hq => by rw [(k.2 q (hl q (by rw [hq]; decide))).2.2.1]) (k.2 _ (by omega)).2.2.1
  have e := (k.2 (na b i) (by unfold na; omega)).2.2.1
  rw [e]; exact ⟨rfl, rfl, rfl⟩
/-- slots of logs: M' has slot t as M has slot g, all others as M -/
def slt (M M' : MM) (g t : Nat) : Prop := M' 3 t = M 3 g ∧ (∀ k, k < 96 → M' 2 (96 * t + k) = M 2 (96 * g + k)) ∧ ∀ u, u ≠ t → M' 3 u = M 3 u ∧ ∀ k, k < 96 → M' 2 (96 * u + k) = M 2 (96 * u + k)
theorem slt_cp (M : MM) (g t : Nat) : slt M (m_cp M g t) g t := by
  refine ⟨by simp [m_cp, m_cpk], fun k hk => ?_, fun u hu => ⟨by simp [m_cp, m_cpk, hu], fun k hk => ?_⟩⟩
  · simp only [m_cp, m_cpk, if_true]
    rw [if_pos (by omega)]
    congr 1; omega
  · simp only [m_cp, m_cpk, if_true]
    rw [if_neg (by omega)]
theorem m_cp_o (M : MM) (g t : Nat) {x y : Nat} (h : x ≠ 2 ∧ x ≠ 3 ∧ x ≠ 4) : m_cp M g t x y = M x y := by
  simp [m_cp, m_cpk, h.1, h.2.1, h.2.2]
theorem m_cp_4 (M : MM) (g t : Nat) {y : Nat} (h : y ≠ t) : m_cp M g t 4 y = M 4 y := by
  simp [m_cp, m_cpk, h]
theorem m_cp_4t (M : MM) (g t : Nat) : m_cp M g t 4 t = M 4 g := by
  simp [m_cp, m_cpk]
theorem LogAt_oth {b n : Nat} {X : Mem} {lg : Nat} {M M' : MM} {g t u : Nat} (h : LogAt b n X lg M u) (hu : u ≠ t) (e : slt M M' g t) (h16 : M 3 u ≤ 16) : LogAt b n X lg M' u := h.to (e.2.2 u hu).1 (fun k hk => (e.2.2 u hu).2 k (by omega))
theorem LogAt_slg {b n : Nat} {X : Mem} {lg : Nat} {M M' : MM} {g t : Nat} (h : LogAt b n X lg M g) (e : slt M M' g t) (h16 : M 3 g ≤ 16) : LogAt b n X lg M' t := h.to e.1 (fun k hk => e.2.1 k (by omega))
/-- a node takes a log -/
theorem Sd_lg {b n f : Nat} {X : Mem} {M M' : MM} {i lg : Nat} (h : Sd b n f X M) (hL : mL M) (h17 : M 17 0 ≤ 240) (hi : i < n) (hlg : LogAt b n X lg M' i) (e : ∀ u, u ≠ i → M' 3 u = M 3 u ∧ ∀ k, k < 96 → M' 2 (96 * u + k) = M 2 (96 * u + k)) (e4 : ∀ y, 5 ≤ y → M' 4 y = M 4 y) (eo : ∀ x y, x = 12 ∨ x = 13 ∨ x = 14 ∨ x = 15 ∨ x = 16 ∨ x = 17 ∨ x = 19 ∨ x = 20 ∨ x = 21 ∨ x = 22 ∨ x = 23 ∨ x = 24 → M' x y = M x y) : Sd b n f (wR X (na b i) 12 (some lg)) M' ∧ go b n X (wR X (na b i) 12 (some lg)) := by
  obtain ⟨h1, ⟨p1, p2⟩, h3, h4, h5, h6, hcu, h8, h9⟩ := h
  have hn5 : n ≤ 5 := by have := h1.2.2.2.2.2.2; omega
  have kn : kd X (na b i) = 3 := (h1.2.2.2.2.2.1 i hi).1.1
  have k : go b n X (wR X (na b i) 12 (some lg)) := go_wR (by rw [kn]; decide) (by rw [kn]; decide) (by unfold na; omega)
  have hr : ∀ a q, ¬ (a = na b i ∧ q = 12) → rv (wR X (na b i) 12 (some lg)) a q = rv X a q := fun a q z => up2_ne _ _ z
  have e17 : M' 17 0 = M 17 0 := eo 17 0 (by omega)
  refine ⟨⟨h1.go k (fun a ha => up2_row _ _ (by unfold na; omega)) (fun j hj => ⟨rfl, rfl, rfl, fun q q1 q2 => hr _ _ (by omega)⟩), ⟨fun l l' hl hl' => ?_, fun l hl hl2 => ?_⟩, fun l hl => ?_, fun j hj => ?_, fun j q hj hq => ?_, fun j q hj hq => ?_, fun j q hj hq => ?_, h8, h9⟩, k⟩
  · rw [hr _ _ (by unfold na; omega), hr _ _ (by unfold na; omega)]; exact p1 l l' (by omega) (by omega)
  · rw [hr _ _ (by unfold na; omega)]; exact p2 l (by omega) hl2
  · obtain ⟨q, q1, q2⟩ := h3 l (by omega)
    have hl16 := (hL (55 + l) (by omega)).1
    exact ⟨q, by rw [hr _ _ (by unfold na; omega)]; exact q1, (q2.go k rfl).to (fun x hx1 hx2 => eo x l (by omega)) (e4 _ (by omega)) (e _ (by omega)).1 (fun z hz => (e _ (by omega)).2 z (by omega))⟩
  · by_cases hji : j = i
    · subst hji
      exact ⟨lg, up2_self _ _ _ _, hlg.go k⟩
    · obtain ⟨lg', q1, q2⟩ := h4 j hj
      exact ⟨lg', by rw [hr _ _ (by unfold na; omega)]; exact q1, (q2.go k).to (e _ hji).1 (fun z hz => (e _ hji).2 z (by have := (hL j (by omega)).1; omega))⟩
  · have := (hL (5 + 5 * j + q) (by omega)).1
    exact ((h5 j q hj hq).go k (hr _ _ (by unfold na; omega))).to (eo 12 _ (by omega)) (eo 13 _ (by omega)) (e4 _ (by omega)) (e _ (by omega)).1 (fun z hz => (e _ (by omega)).2 z (by omega))
  · have := (hL (30 + 5 * j + q) (by omega)).1
    exact ((h6 j q hj hq).go k (hr _ _ (by unfold na; omega))).to (eo 14 _ (by omega)) (eo 15 _ (by omega)) (e4 _ (by omega)) (e _ (by omega)).1 (fun z hz => (e _ (by omega)).2 z (by omega))
  · rw [eo 16 _ (by omega), eo 16 _ (by omega)]; exact hcu j q hj hq
theorem Sd_log {b n f : Nat} {X : Mem} {M M' : MM} {g i lg : Nat} (h : Sd b n f X M) (hL : mL M) (h17 : M 17 0 ≤ 240) (hi : i < n) (hg : g < 295) (hlg : LogAt b n X lg M g) (e : slt M M' g i) (e4 : ∀ y, 5 ≤ y → M' 4 y = M 4 y) (eo : ∀ x y, x = 12 ∨ x = 13 ∨ x = 14 ∨ x = 15 ∨ x = 16 ∨ x = 17 ∨ x = 19 ∨ x = 20 ∨ x = 21 ∨ x = 22 ∨ x = 23 ∨ x = 24 → M' x y = M x y) : Sd b n f (wR X (na b i) 12 (some lg)) M' ∧ go b n X (wR X (na b i) 12 (some lg)) :=
  Sd_lg h hL h17 hi (LogAt_slg hlg e (hL g hg).1) e.2.2 e4 eo
/-- the votes: one comes, one goes -/
theorem Sd_vote {b n f : Nat} {X : Mem} {M M' : MM} {g i j q lg : Nat} (h : Sd b n f X M) (hL : mL M) (h17 : M 17 0 ≤ 240) (hi : i < n) (hj : j < n) (hg : g < 295) (hq : kd X q = 1) (hq4 : iv X q 4 = M' 4 (5 + 5 * i + j)) (hq5 : iv X q 5 = M' 13 (5 * i + j)) (hq6 : rv X q 6 = some lg) (hlg : LogAt b n X lg M g) (h12 : M' 12 (5 * i + j) ≠ 0) (e : slt M M' g (5 + 5 * i + j)) (e12 : ∀ y, y ≠ 5 * i + j → M' 12 y = M 12 y ∧ M' 13 y = M 13 y) (e4 : ∀ y, 5 ≤ y → y ≠ 5 + 5 * i + j → M' 4 y = M 4 y) (eo : ∀ x y, x = 14 ∨ x = 15 ∨ x = 16 ∨ x = 17 ∨ x = 19 ∨ x = 20 ∨ x = 21 ∨ x = 22 ∨ x = 23 ∨ x = 24 → M' x y = M x y) : Sd b n f (wR X (na b i + 2) j (some q)) M' ∧ go b n X (wR X (na b i + 2) j (some q)) := by
  obtain ⟨h1, ⟨p1, p2⟩, h3, h4, h5, h6, hcu, h8, h9⟩ := h
  have hn5 : n ≤ 5 := by have := h1.2.2.2.2.2.2; omega
  have kn : kd X (na b i + 2) = 9 := (h1.2.2.2.2.2.1 i hi).2.2.2.2.1
  have k : go b n X (wR X (na b i + 2) j (some q)) := go_wR (by rw [kn]; decide) (by rw [kn]; decide) (by unfold na; omega)
  have hr : ∀ a z, ¬ (a = na b i + 2 ∧ z = j) → rv (wR X (na b i + 2) j (some q)) a z = rv X a z := fun a z w => up2_ne _ _ w
  have e17 : M' 17 0 = M 17 0 := eo 17 0 (by omega)
  refine ⟨⟨h1.go k (fun a ha => up2_row _ _ (by unfold na; omega)) (fun u hu => ⟨rfl, rfl, rfl, fun z z1 z2 => hr _ _ (by unfold na; omega)⟩), ⟨fun l l' hl hl' => ?_, fun l hl hl2 => ?_⟩, fun l hl => ?_, fun u hu => ?_, fun u z hu hz => ?_, fun u z hu hz => ?_, fun u z hu hz => ?_, h8, h9⟩, k⟩
  · rw [hr _ _ (by unfold na; omega), hr _ _ (by unfold na; omega)]; exact p1 l l' (by omega) (by omega)
  · rw [hr _ _ (by unfold na; omega)]; exact p2 l (by omega) hl2
  · obtain ⟨q', q1, q2⟩ := h3 l (by omega)
    have hl16 := (hL (55 + l) (by omega)).1
    exact ⟨q', by rw [hr _ _ (by unfold na; omega)]; exact q1, (q2.go k rfl).to (fun x hx1 hx2 => eo x l (by omega)) (e4 _ (by omega) (by omega)) (e.2.2 _ (by omega)).1 (fun z hz => (e.2.2 _ (by omega)).2 z (by omega))⟩
  · obtain ⟨lg', q1, q2⟩ := h4 u hu
    exact ⟨lg', by rw [hr _ _ (by unfold na; omega)]; exact q1, LogAt_oth (q2.go k) (by omega) e (hL u (by omega)).1⟩
  · by_cases huz : u = i ∧ z = j
    · obtain ⟨rfl, rfl⟩ := huz
      exact ⟨fun w => absurd w h12, fun _ => ⟨q, lg, up2_self _ _ _ _, hq, hq4, hq5, (k.2.2.2.2.1 q hq).1.trans hq6, LogAt_slg (hlg.go k) e (hL g hg).1⟩⟩
    · have := (hL (5 + 5 * u + z) (by omega)).1
      exact ((h5 u z hu hz).go k (hr _ _ (by unfold na; omega))).to (e12 _ (by omega)).1 (e12 _ (by omega)).2 (e4 _ (by omega) (by omega)) (e.2.2 _ (by omega)).1 (fun w hw => (e.2.2 _ (by omega)).2 w (by omega))
  · have := (hL (30 + 5 * u + z) (by omega)).1
    exact ((h6 u z hu hz).go k (hr _ _ (by unfold na; omega))).to (eo 14 _ (by omega)) (eo 15 _ (by omega)) (e4 _ (by omega) (by omega)) (e.2.2 _ (by omega)).1 (fun w hw => (e.2.2 _ (by omega)).2 w (by omega))
  · rw [eo 16 _ (by omega), eo 16 _ (by omega)]; exact hcu u z hu hz
theorem Sd_tale {b n f : Nat} {X : Mem} {M M' : MM} {g i j q lg : Nat} (h : Sd b n f X M) (hL : mL M) (h17 : M 17 0 ≤ 240) (hi : i < n) (hj : j < n) (hg : g < 295) (hq : kd X q = 1) (hq3 : iv X q 3 = M' 15 (5 * i + j)) (hq4 : iv X q 4 = M' 4 (30 + 5 * i + j)) (hq6 : rv X q 6 = some lg) (hlg : LogAt b n X lg M g) (h14 : M' 14 (5 * i + j) ≠ 0) (e : slt M M' g (30 + 5 * i + j)) (e14 : ∀ y, y ≠ 5 * i + j → M' 14 y = M 14 y ∧ M' 15 y = M 15 y) (e4 : ∀ y, 5 ≤ y → y ≠ 30 + 5 * i + j → M' 4 y = M 4 y) (eo : ∀ x y, x = 12 ∨ x = 13 ∨ x = 16 ∨ x = 17 ∨ x = 19 ∨ x = 20 ∨ x = 21 ∨ x = 22 ∨ x = 23 ∨ x = 24 → M' x y = M x y) : Sd b n f (wR X (na b i + 3) j (some q)) M' ∧ go b n X (wR X (na b i + 3) j (some q)) := by
  obtain ⟨h1, ⟨p1, p2⟩, h3, h4, h5, h6, hcu, h8, h9⟩ := h
  have hn5 : n ≤ 5 := by have := h1.2.2.2.2.2.2; omega
  have kn : kd X (na b i + 3) = 9 := (h1.2.2.2.2.2.1 i hi).2.2.2.2.2.2.1
  have k : go b n X (wR X (na b i + 3) j (some q)) := go_wR (by rw [kn]; decide) (by rw [kn]; decide) (by unfold na; omega)
  have hr : ∀ a z, ¬ (a = na b i + 3 ∧ z = j) → rv (wR X (na b i + 3) j (some q)) a z = rv X a z := fun a z w => up2_ne _ _ w
  have e17 : M' 17 0 = M 17 0 := eo 17 0 (by omega)
  refine ⟨⟨h1.go k (fun a ha => up2_row _ _ (by unfold na; omega)) (fun u hu => ⟨rfl, rfl, rfl, fun z z1 z2 => hr _ _ (by unfold na; omega)⟩), ⟨fun l l' hl hl' => ?_, fun l hl hl2 => ?_⟩, fun l hl => ?_, fun u hu => ?_, fun u z hu hz => ?_, fun u z hu hz => ?_, fun u z hu hz => ?_, h8, h9⟩, k⟩
  · rw [hr _ _ (by unfold na; omega), hr _ _ (by unfold na; omega)]; exact p1 l l' (by omega) (by omega)
  · rw [hr _ _ (by unfold na; omega)]; exact p2 l (by omega) hl2
  · obtain ⟨q', q1, q2⟩ := h3 l (by omega)
    have hl16 := (hL (55 + l) (by omega)).1
    exact ⟨q', by rw [hr _ _ (by unfold na; omega)]; exact q1, (q2.go k rfl).to (fun x hx1 hx2 => eo x l (by omega)) (e4 _ (by omega) (by omega)) (e.2.2 _ (by omega)).1 (fun z hz => (e.2.2 _ (by omega)).2 z (by omega))⟩
  · obtain ⟨lg', q1, q2⟩ := h4 u hu
    exact ⟨lg', by rw [hr _ _ (by unfold na; omega)]; exact q1, LogAt_oth (q2.go k) (by omega) e (hL u (by omega)).1⟩
  · have := (hL (5 + 5 * u + z) (by omega)).1
    exact ((h5 u z hu hz).go k (hr _ _ (by unfold na; omega))).to (eo 12 _ (by omega)) (eo 13 _ (by omega)) (e4 _ (by omega) (by omega)) (e.2.2 _ (by omega)).1 (fun w hw => (e.2.2 _ (by omega)).2 w (by omega))
  · by_cases huz : u = i ∧ z = j
    · obtain ⟨rfl, rfl⟩ := huz
      exact ⟨fun w => absurd w h14, fun _ => ⟨q, lg, up2_self _ _ _ _, hq, hq3, hq4, (k.2.2.2.2.1 q hq).1.trans hq6, LogAt_slg (hlg.go k) e (hL g hg).1⟩⟩
    · have := (hL (30 + 5 * u + z) (by omega)).1
      exact ((h6 u z hu hz).go k (hr _ _ (by unfold na; omega))).to (e14 _ (by omega)).1 (e14 _ (by omega)).2 (e4 _ (by omega) (by omega)) (e.2.2 _ (by omega)).1 (fun w hw => (e.2.2 _ (by omega)).2 w (by omega))
  · rw [eo 16 _ (by omega), eo 16 _ (by omega)]; exact hcu u z hu hz
/-- a place of the votes, of the tales emptied -/
theorem Sd_nov {b n f : Nat} {X : Mem} {M : MM} {i j : Nat} (h : Sd b n f X M) (hi : i < n) (hj : j < n) : Sd b n f (wR X (na b i + 2) j none) (up2 M 12 (5 * i + j) 0) ∧ go b n X (wR X (na b i + 2) j none) := by
  obtain ⟨h1, ⟨p1, p2⟩, h3, h4, h5, h6, hcu, h8, h9⟩ := h
  have hn5 : n ≤ 5 := by have := h1.2.2.2.2.2.2; omega
  have kn : kd X (na b i + 2) = 9 := (h1.2.2.2.2.2.1 i hi).2.2.2.2.1
  have k : go b n X (wR X (na b i + 2) j none) := go_wR (by rw [kn]; decide) (by rw [kn]; decide) (by unfold na; omega)
  have hr : ∀ a z, ¬ (a = na b i + 2 ∧ z = j) → rv (wR X (na b i + 2) j none) a z = rv X a z := fun a z w => up2_ne _ _ w
  have eo : ∀ x y, x ≠ 12 → up2 M 12 (5 * i + j) 0 x y = M x y := fun x y z => up2_ne _ _ (fun w => z w.1)
  have e17 := eo 17 0 (by decide)
  refine ⟨⟨h1.go k (fun a ha => up2_row _ _ (by unfold na; omega)) (fun u hu => ⟨rfl, rfl, rfl, fun z z1 z2 => hr _ _ (by unfold na; omega)⟩), ⟨fun l l' hl hl' => ?_, fun l hl hl2 => ?_⟩, fun l hl => ?_, fun u hu => ?_, fun u z hu hz => ?_, fun u z hu hz => ?_, fun u z hu hz => ?_, h8, h9⟩, k⟩
  · rw [hr _ _ (by unfold na; omega), hr _ _ (by unfold na; omega)]; exact p1 l l' (by omega) (by omega)
  · rw [hr _ _ (by unfold na; omega)]; exact p2 l (by omega) hl2
  · obtain ⟨q', q1, q2⟩ := h3 l (by omega)
    exact ⟨q', by rw [hr _ _ (by unfold na; omega)]; exact q1, (q2.go k rfl).to (fun x hx1 hx2 => eo x l (by omega)) (eo 4 _ (by decide)) (eo 3 _ (by decide)) (fun z hz => eo 2 _ (by decide))⟩
  · obtain ⟨lg', q1, q2⟩ := h4 u hu
    exact ⟨lg', by rw [hr _ _ (by unfold na; omega)]; exact q1, (q2.go k).to (eo 3 _ (by decide)) (fun z hz => eo 2 _ (by decide))⟩
  · by_cases huz : u = i ∧ z = j
    · obtain ⟨rfl, rfl⟩ := huz
      exact ⟨fun _ => up2_self _ _ _ _, fun w => absurd (up2_self M 12 (5 * u + z) 0) w⟩
    · exact ((h5 u z hu hz).go k (hr _ _ (by unfold na; omega))).to (up2_ne _ _ (by omega)) (eo 13 _ (by decide)) (eo 4 _ (by decide)) (eo 3 _ (by decide)) (fun w hw => eo 2 _ (by decide))
  · exact ((h6 u z hu hz).go k (hr _ _ (by unfold na; omega))).to (eo 14 _ (by decide)) (eo 15 _ (by decide)) (eo 4 _ (by decide)) (eo 3 _ (by decide)) (fun w hw => eo 2 _ (by decide))
  · rw [eo 16 _ (by decide), eo 16 _ (by decide)]; exact hcu u z hu hz
theorem Sd_not {b n f : Nat} {X : Mem} {M : MM} {i j : Nat} (h : Sd b n f X M) (hi : i < n) (hj : j < n) : Sd b n f (wR X (na b i + 3) j none) (up2 M 14 (5 * i + j) 0) ∧ go b n X (wR X (na b i + 3) j none) := by
  obtain ⟨h1, ⟨p1, p2⟩, h3, h4, h5, h6, hcu, h8, h9⟩ := h
  have hn5 : n ≤ 5 := by have := h1.2.2.2.2.2.2; omega
  have kn : kd X (na b i + 3) = 9 := (h1.2.2.2.2.2.1 i hi).2.2.2.2.2.2.1
  have k : go b n X (wR X (na b i + 3) j none) := go_wR (by rw [kn]; decide) (by rw [kn]; decide) (by unfold na; omega)
  have hr : ∀ a z, ¬ (a = na b i + 3 ∧ z = j) → rv (wR X (na b i + 3) j none) a z = rv X a z := fun a z w => up2_ne _ _ w
  have eo : ∀ x y, x ≠ 14 → up2 M 14 (5 * i + j) 0 x y = M x y := fun x y z => up2_ne _ _ (fun w => z w.1)
  have e17 := eo 17 0 (by decide)
  refine ⟨⟨h1.go k (fun a ha => up2_row _ _ (by unfold na; omega)) (fun u hu => ⟨rfl, rfl, rfl, fun z z1 z2 => hr _ _ (by unfold na; omega)⟩), ⟨fun l l' hl hl' => ?_, fun l hl hl2 => ?_⟩, fun l hl => ?_, fun u hu => ?_, fun u z hu hz => ?_, fun u z hu hz => ?_, fun u z hu hz => ?_, h8, h9⟩, k⟩
  · rw [hr _ _ (by unfold na; omega), hr _ _ (by unfold na; omega)]; exact p1 l l' (by omega) (by omega)
  · rw [hr _ _ (by unfold na; omega)]; exact p2 l (by omega) hl2
  · obtain ⟨q', q1, q2⟩ := h3 l (by omega)
    exact ⟨q', by rw [hr _ _ (by unfold na; omega)]; exact q1, (q2.go k rfl).to (fun x hx1 hx2 => eo x l (by omega)) (eo 4 _ (by decide)) (eo 3 _ (by decide)) (fun z hz => eo 2 _ (by decide))⟩
  · obtain ⟨lg', q1, q2⟩ := h4 u hu
    exact ⟨lg', by rw [hr _ _ (by unfold na; omega)]; exact q1, (q2.go k).to (eo 3 _ (by decide)) (fun z hz => eo 2 _ (by decide))⟩
  · exact ((h5 u z hu hz).go k (hr _ _ (by unfold na; omega))).to (eo 12 _ (by decide)) (eo 13 _ (by decide)) (eo 4 _ (by decide)) (eo 3 _ (by decide)) (fun w hw => eo 2 _ (by decide))
  · by_cases huz : u = i ∧ z = j
    · obtain ⟨rfl, rfl⟩ := huz
      exact ⟨fun _ => up2_self _ _ _ _, fun w => absurd (up2_self M 14 (5 * u + z) 0) w⟩
    · exact ((h6 u z hu hz).go k (hr _ _ (by unfold na; omega))).to (up2_ne _ _ (by omega)) (eo 15 _ (by decide)) (eo 4 _ (by decide)) (eo 3 _ (by decide)) (fun w hw => eo 2 _ (by decide))
  · rw [eo 16 _ (by decide), eo 16 _ (by decide)]; exact hcu u z hu hz
/-- a letter dropped -/
theorem Sd_drop {b n f : Nat} {X : Mem} {M : MM} {l q v : Nat} (h : Sd b n f X M) (hl : l < M 17 0) (hq : rv X (b + 4) l = some q) : Sd b n f (wI X q 7 v) (up2 M 24 l v) ∧ go b n X (wI X q 7 v) := by
  obtain ⟨h1, ⟨p1, p2⟩, h3, h4, h5, h6, hcu, h8, h9⟩ := h
  obtain ⟨q0, z1, z2⟩ := h3 l hl
  have : q0 = q := Option.some.inj (z1.symm.trans hq)
  subst this
  have kq := z2.1.1
  have k : go b n X (wI X q0 7 v) := go_w7 kq (fun c c1 c2 => (h9 c c1 c2).1)
  have eo : ∀ x y, x ≠ 24 → up2 M 24 l v x y = M x y := fun x y z => up2_ne _ _ (fun w => z w.1)
  have e17 := eo 17 0 (by decide)
  have hiv : ∀ a j, a ≠ q0 → iv (wI X q0 7 v) a j = iv X a j := fun a j z => up2_ne _ _ (fun w => z w.1)
  have hne : ∀ a, kd X a ≠ 1 → a ≠ q0 := fun a w z => w (by rw [z]; exact kq)
  refine ⟨⟨h1.go k (fun a ha => rfl) (fun u hu => ?_), ⟨fun a a' ha ha' => p1 a a' (by omega) (by omega), fun a ha ha2 => p2 a (by omega) ha2⟩, fun a ha => ?_, fun u hu => ?_, fun u z hu hz => ?_, fun u z hu hz => ?_, fun u z hu hz => ?_, h8, h9⟩, k⟩
  · have := hne (na b u) (by rw [(h1.2.2.2.2.2.1 u hu).1.1]; decide)
    exact ⟨hiv _ _ this, hiv _ _ this, hiv _ _ this, fun _ _ _ => rfl⟩
  · obtain ⟨q', q1, q2⟩ := h3 a (by omega)
    by_cases hal : a = l
    · subst hal
      have : q' = q0 := Option.some.inj (q1.symm.trans hq)
      subst this
      obtain ⟨⟨a1, a2, a3, a4, a5, a6, a7⟩, lg, b1, b2, b3⟩ := q2
      obtain ⟨k1, k2⟩ := k.2.2.2.2.1 q' kq
      refine ⟨q', q1, ⟨kq, by rw [k2 0 (by decide), eo 19 _ (by decide)]; exact a2, by rw [k2 1 (by decide), eo 20 _ (by decide)]; exact a3, by rw [k2 2 (by decide), eo 21 _ (by decide)]; exact a4, by rw [k2 3 (by decide), eo 22 _ (by decide)]; exact a5, by rw [k2 5 (by decide), eo 23 _ (by decide)]; exact a6, by rw [up2_self]; exact up2_self _ _ _ _⟩, lg, b1, fun w => ?_, fun w => ?_⟩
      · rw [eo 21 _ (by decide)] at w
        exact ⟨by rw [k2 4 (by decide), eo 4 _ (by decide)]; exact (b2 w).1, ((b2 w).2.go k).to (eo 3 _ (by decide)) (fun z hz => eo 2 _ (by decide))⟩
      · rw [eo 21 _ (by decide)] at w
        exact ⟨by rw [k2 4 (by decide)]; exact (b3 w).1, (b3 w).2⟩
    · have hqq : q' ≠ q0 := fun z => hal (p1 a l (by omega) hl (by rw [q1, hq, z]))
      exact ⟨q', q1, (q2.go k (hiv _ _ hqq)).to (fun x hx1 hx2 => Classical.byCases (fun h24 : x = 24 => by rw [h24]; exact up2_ne _ _ (fun w => hal w.2)) (fun h24 => eo x a h24)) (eo 4 _ (by decide)) (eo 3 _ (by decide)) (fun z hz => eo 2 _ (by decide))⟩
  · obtain ⟨lg', q1, q2⟩ := h4 u hu
    exact ⟨lg', q1, (q2.go k).to (eo 3 _ (by decide)) (fun z hz => eo 2 _ (by decide))⟩
  · exact ((h5 u z hu hz).go k rfl).to (eo 12 _ (by decide)) (eo 13 _ (by decide)) (eo 4 _ (by decide)) (eo 3 _ (by decide)) (fun w hw => eo 2 _ (by decide))
  · exact ((h6 u z hu hz).go k rfl).to (eo 14 _ (by decide)) (eo 15 _ (by decide)) (eo 4 _ (by decide)) (eo 3 _ (by decide)) (fun w hw => eo 2 _ (by decide))
  · rw [eo 16 _ (by decide), eo 16 _ (by decide)]
    refine ⟨(hcu u z hu hz).1, fun w => ?_⟩
    rw [hiv _ _ (hne _ (by rw [h1.2.2.2.2.1.1]; decide))]
    exact (hcu u z hu hz).2 w
