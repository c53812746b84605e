theorem slt_eq {M N M' : MM} {g t : Nat} (h : slt N M' g t) (e2 : ∀ y, N 2 y = M 2 y) (e3 : ∀ y, N 3 y = M 3 y) : slt M M' g t :=
  ⟨h.1.trans (e3 _), fun k hk => (h.2.1 k hk).trans (e2 _), fun u hu => ⟨((h.2.2 u hu).1).trans (e3 _), fun k hk => ((h.2.2 u hu).2 k hk).trans (e2 _)⟩⟩
/-- a letter with its log, as the votes and tales hold it -/
def VL (b n : Nat) (X : Mem) (M : MM) (q c g : Nat) : Prop := kd X q = 1 ∧ iv X q 4 = M 4 g ∧ iv X q 5 = c ∧ g < 295 ∧ ∃ lg, rv X q 6 = some lg ∧ LogAt b n X lg M g
def m_vt (M : MM) (i j g c : Nat) : MM := m_cp (up2 (up2 M 12 (5 * i + j) 1) 13 (5 * i + j) c) g (5 + 5 * i + j)
def m_tl (M : MM) (i j g v : Nat) : MM := m_cp (up2 (up2 M 14 (5 * i + j) 1) 15 (5 * i + j) v) g (30 + 5 * i + j)
theorem c_vote {b n f i j q c g : Nat} {X : Mem} {M : MM} (P : Nat → Nat) (hs : Sd b n f X M) (hJ : J M) (hi : i < n) (hj : j < n) (hc : c < 2147483648) (hv : VL b n X M q c g) : cM b n (wR X (na b i + 2) j (some q)) M P = cM b n (wR X (na b i + 2) j (some q)) (m_vt M i j g c) P ∧ Sd b n f (wR X (na b i + 2) j (some q)) (m_vt M i j g c) ∧ go b n X (wR X (na b i + 2) j (some q)) ∧ J (m_vt M i j g c) := by
  have hn5 : n ≤ 5 := by have := g_nf hs; omega
  obtain ⟨v1, v2, v3, v4, lg, v5, v6⟩ := hv
  have o : ∀ x y, x ≠ 12 → x ≠ 13 → up2 (up2 M 12 (5 * i + j) 1) 13 (5 * i + j) c x y = M x y := fun x y h1 h2 => by
    rw [up2_ne _ _ (fun w => h2 w.1), up2_ne _ _ (fun w => h1 w.1)]
  have o2 : ∀ x y, x ≠ 2 → x ≠ 3 → x ≠ 4 → x ≠ 12 → x ≠ 13 → m_vt M i j g c x y = M x y := fun x y h2 h3 h4 h12 h13 => by
    unfold m_vt; rw [m_cp_o _ _ _ ⟨h2, h3, h4⟩, o x y h12 h13]
  have o4 : ∀ y, y ≠ 5 + 5 * i + j → m_vt M i j g c 4 y = M 4 y := fun y hy => by
    unfold m_vt; rw [m_cp_4 _ _ _ hy, o 4 y (by decide) (by decide)]
  have e4 : m_vt M i j g c 4 (5 + 5 * i + j) = M 4 g := by unfold m_vt; rw [m_cp_4t, o 4 _ (by decide) (by decide)]
  have e13 : m_vt M i j g c 13 (5 * i + j) = c := by unfold m_vt; rw [m_cp_o _ _ _ (by decide), up2_self]
  have e12 : m_vt M i j g c 12 (5 * i + j) = 1 := by unfold m_vt; rw [m_cp_o _ _ _ (by decide), up2_ne _ _ (by omega), up2_self]
  have oy : ∀ y, y ≠ 5 * i + j → m_vt M i j g c 12 y = M 12 y ∧ m_vt M i j g c 13 y = M 13 y := fun y hy => by
    unfold m_vt
    rw [m_cp_o _ _ _ (by decide), m_cp_o _ _ _ (by decide), up2_ne _ _ (by omega), up2_ne _ _ (by omega), up2_ne _ _ (by omega), up2_ne _ _ (by omega)]
    exact ⟨rfl, rfl⟩
  have es : slt M (m_vt M i j g c) g (5 + 5 * i + j) := slt_eq (slt_cp _ g _) (fun y => o 2 y (by decide) (by decide)) (fun y => o 3 y (by decide) (by decide))
  obtain ⟨h1, h2⟩ := Sd_vote (q := q) (lg := lg) hs hJ.2.1 hJ.1.2 hi hj v4 v1 (by rw [e4]; exact v2) (by rw [e13]; exact v3) v5 v6 (by rw [e12]; decide) es oy (fun y _ hy => o4 y hy) (fun x y hx => o2 x y (by omega) (by omega) (by omega) (by omega) (by omega))
  exact ⟨cM_hid hn5 _ P (fun u hu => o4 u (by omega)) (fun x y hx => o2 x y (by omega) (by omega) (by omega) (by omega) (by omega)), h1, h2, J_cp (J_up (J_up hJ 12 _ (by decide) (Or.inl (by decide))) 13 _ (by decide) (Or.inl hc)) v4⟩
theorem c_tale {b n f i j q c v g : Nat} {X : Mem} {M : MM} (P : Nat → Nat) (hs : Sd b n f X M) (hJ : J M) (hi : i < n) (hj : j < n) (hv0 : v < 2147483648) (hq3 : iv X q 3 = v) (hv : VL b n X M q c g) : cM b n (wR X (na b i + 3) j (some q)) M P = cM b n (wR X (na b i + 3) j (some q)) (m_tl M i j g v) P ∧ Sd b n f (wR X (na b i + 3) j (some q)) (m_tl M i j g v) ∧ go b n X (wR X (na b i + 3) j (some q)) ∧ J (m_tl M i j g v) := by
  have hn5 : n ≤ 5 := by have := g_nf hs; omega
  obtain ⟨v1, v2, v3, v4, lg, v5, v6⟩ := hv
  have o : ∀ x y, x ≠ 14 → x ≠ 15 → up2 (up2 M 14 (5 * i + j) 1) 15 (5 * i + j) v x y = M x y := fun x y h1 h2 => by
    rw [up2_ne _ _ (fun w => h2 w.1), up2_ne _ _ (fun w => h1 w.1)]
  have o2 : ∀ x y, x ≠ 2 → x ≠ 3 → x ≠ 4 → x ≠ 14 → x ≠ 15 → m_tl M i j g v x y = M x y := fun x y h2 h3 h4 h12 h13 => by
    unfold m_tl; rw [m_cp_o _ _ _ ⟨h2, h3, h4⟩, o x y h12 h13]
  have o4 : ∀ y, y ≠ 30 + 5 * i + j → m_tl M i j g v 4 y = M 4 y := fun y hy => by
    unfold m_tl; rw [m_cp_4 _ _ _ hy, o 4 y (by decide) (by decide)]
  have e4 : m_tl M i j g v 4 (30 + 5 * i + j) = M 4 g := by unfold m_tl; rw [m_cp_4t, o 4 _ (by decide) (by decide)]
  have e13 : m_tl M i j g v 15 (5 * i + j) = v := by unfold m_tl; rw [m_cp_o _ _ _ (by decide), up2_self]
  have e12 : m_tl M i j g v 14 (5 * i + j) = 1 := by unfold m_tl; rw [m_cp_o _ _ _ (by decide), up2_ne _ _ (by omega), up2_self]
  have oy : ∀ y, y ≠ 5 * i + j → m_tl M i j g v 14 y = M 14 y ∧ m_tl M i j g v 15 y = M 15 y := fun y hy => by
    unfold m_tl
    rw [m_cp_o _ _ _ (by decide), m_cp_o _ _ _ (by decide), up2_ne _ _ (by omega), up2_ne _ _ (by omega), up2_ne _ _ (by omega), up2_ne _ _ (by omega)]
    exact ⟨rfl, rfl⟩
  have es : slt M (m_tl M i j g v) g (30 + 5 * i + j) := slt_eq (slt_cp _ g _) (fun y => o 2 y (by decide) (by decide)) (fun y => o 3 y (by decide) (by decide))
  obtain ⟨h1, h2⟩ := Sd_tale (q := q) (lg := lg) hs hJ.2.1 hJ.1.2 hi hj v4 v1 (by rw [e13]; exact hq3) (by rw [e4]; exact v2) v5 v6 (by rw [e12]; decide) es oy (fun y _ hy => o4 y hy) (fun x y hx => o2 x y (by omega) (by omega) (by omega) (by omega) (by omega))
  exact ⟨cM_hid hn5 _ P (fun u hu => o4 u (by omega)) (fun x y hx => o2 x y (by omega) (by omega) (by omega) (by omega) (by omega)), h1, h2, J_cp (J_up (J_up hJ 14 _ (by decide) (Or.inl (by decide))) 15 _ (by decide) (Or.inl hv0)) v4⟩
theorem m_bst_v (M : MM) (i : Nat) : ∀ j b, m_bst M i j = some b → M 12 (5 * i + b) ≠ 0 := by
  intro j
  induction j with
  | zero => intro b h; cases h
  | succ j ih =>
    intro b h
    unfold m_bst at h
    by_cases h0 : M 12 (5 * i + j) = 0
    · rw [if_pos h0] at h; exact ih b h
    · rw [if_neg h0] at h
      cases hb : m_bst M i j with
      | none => rw [hb] at h; cases h; exact h0
      | some k =>
        rw [hb] at h
        simp only at h
        by_cases h1 : M 13 (5 * i + k) < M 13 (5 * i + j)
        · rw [if_pos h1] at h; cases h; exact h0
        · rw [if_neg h1] at h
          by_cases h2 : M 13 (5 * i + j) = M 13 (5 * i + k) ∧ M 3 (5 + 5 * i + k) < M 3 (5 + 5 * i + j)
          · rw [if_pos h2] at h; cases h; exact h0
          · rw [if_neg h2] at h; cases h; exact ih _ hb
/-- what a node was told, forgotten -/
theorem cM_fl {b n i : Nat} (hi : i < n) (hn : n ≤ 5) (X : Mem) (M : MM) (P : Nat → Nat) : fl (cM b n X M P) (na b i + 4) 0 n = cM b n X (m_kz M i 5) P := by
  refine Prod.ext rfl (Prod.ext rfl (Prod.ext rfl (Prod.ext ?_ rfl)))
  funext a j
  show (if a = na b i + 4 ∧ j < n then 0 else cV b n M P a j (iv X a j)) = cV b n (m_kz M i 5) P a j (iv X a j)
  have o : ∀ x y, x ≠ 10 → m_kz M i 5 x y = M x y := fun x y h => if_neg (fun w => h w.1)
  have ov : ∀ base, vm (m_kz M i 5) base n = vm M base n := fun base => vm_c n (fun y _ => o 11 _ (by decide))
  rcases cV_cases b n a with rfl | rfl | ⟨i', r, hi', hr, rfl⟩ | ⟨h1, h2⟩
  · rw [if_neg (by unfold na; omega), cV_pool, cV_pool, o 17 0 (by decide), o 18 0 (by decide)]
  · rw [if_neg (by unfold na; omega), cV_cut, cV_cut, o 16 _ (by decide)]
  · rw [cV_node hi' hr, cV_node hi' hr]
    by_cases h0 : r = 0
    · rw [if_neg (by unfold na; omega), if_pos h0, if_pos h0]
      simp only [cN, o 5 _ (show _ by decide), o 6 _ (show _ by decide), o 4 _ (show _ by decide), o 7 _ (show _ by decide), o 8 _ (show _ by decide), ov]
    · rw [if_neg h0, if_neg h0]
      by_cases h4 : r = 4 ∧ j < n
      · rw [if_pos h4, if_pos h4]
        unfold m_kz
        by_cases hh : i' = i
        · rw [if_pos (by unfold na; omega), if_pos (by omega)]
        · rw [if_neg (by unfold na; omega), if_neg (by omega)]
      · rw [if_neg (by unfold na; omega), if_neg h4, if_neg h4]
  · rw [if_neg (by unfold na; omega), cV_out h1 h2, cV_out h1 h2]
theorem Sd_kz {b n f : Nat} {X : Mem} {M : MM} (h : Sd b n f X M) (i k : Nat) : Sd b n f X (m_kz M i k) :=
  Sd_to h ⟨fun x y hx => if_neg (by omega), fun y _ => if_neg (by omega)⟩
theorem J_kz {M : MM} (h : J M) (i k : Nat) : J (m_kz M i k) := J_rz h 10 i k (by decide)
theorem up2_comm {α : Type} (f : Nat → Nat → α) {a k a' k' : Nat} (v v' : α) (h : a ≠ a') : up2 (up2 f a k v) a' k' v' = up2 (up2 f a' k' v') a k v := by
  funext x y
  unfold up2
  by_cases h1 : x = a ∧ y = k
  · rw [if_pos h1, if_neg (fun z => h (h1.1.symm.trans z.1)), if_pos h1]
  · rw [if_neg h1, if_neg h1]
