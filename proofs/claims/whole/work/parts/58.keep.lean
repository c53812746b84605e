/-! what every run keeps, kept by every act -/
theorem m_cnt_c {M M' : MM} {x base : Nat} : ∀ j, (∀ y, y < j → M' x (base + y) = M x (base + y)) → m_cnt M' x base j = m_cnt M x base j := by
  intro j
  induction j with
  | zero => intro _; rfl
  | succ j ih => intro h; simp only [m_cnt, ih (fun y hy => h y (by omega)), h j (by omega)]
theorem m_cnt_z {M : MM} {x base : Nat} : ∀ j, (∀ y, y < j → M x (base + y) = 0) → m_cnt M x base j = 0 := by
  intro j
  induction j with
  | zero => intro _; rfl
  | succ j ih => intro h; rw [m_cnt, ih (fun y hy => h y (by omega)), if_pos (h j (by omega))]
theorem Kn_fr {n f : Nat} {M M' : MM} {P P' : Nat → Nat} {u : Nat} (hn5 : n ≤ 5) (hu : u < n) (h : Kn n f M P u) (e : ∀ x, 5 ≤ x → x ≤ 9 → M' x u = M x u) (er : ∀ x y, x = 10 ∨ x = 11 ∨ x = 12 ∨ x = 15 → 5 * u ≤ y → y < 5 * u + 5 → M' x y = M x y) (eP : P' u = P u) : Kn n f M' P' u := by
  have ec : m_cnt M' 11 (5 * u) n = m_cnt M 11 (5 * u) n := m_cnt_c n (fun y hy => er 11 _ (by omega) (by omega) (by omega))
  obtain ⟨h1, h2, h3, h4, h5, h6, h7, h8, h9, h10, h11, h12⟩ := h
  unfold Kn
  rw [e 5 (by decide) (by decide), e 6 (by decide) (by decide), e 7 (by decide) (by decide), e 8 (by decide) (by decide), e 9 (by decide) (by decide), ec, er 12 (5 * u + u) (by omega) (by omega) (by omega), er 10 (5 * u + u) (by omega) (by omega) (by omega), eP]
  exact ⟨h1, h2, h3, h4, h5, h6, fun j hj => by rw [er 11 _ (by omega) (by omega) (by omega), er 15 _ (by omega) (by omega) (by omega)]; exact h7 j hj, h8, h9, h10, h11, h12⟩
theorem Kl_fr {n : Nat} {M M' : MM} {l : Nat} (h : Kl n M l) (e : ∀ x, 19 ≤ x → x ≤ 22 → M' x l = M x l) : Kl n M' l := by
  unfold Kl
  rw [e 19 (by decide) (by decide), e 20 (by decide) (by decide), e 21 (by decide) (by decide), e 22 (by decide) (by decide)]
  exact h
theorem K_node {n f : Nat} {M M' : MM} {P P' : Nat → Nat} {i : Nat} (hK : K n f M P) (hn5 : n ≤ 5) (e : ∀ x y, 5 ≤ x → x ≤ 9 → y ≠ i → M' x y = M x y) (er : ∀ x y, x = 10 ∨ x = 11 ∨ x = 12 ∨ x = 15 → (y < 5 * i ∨ 5 * i + 5 ≤ y) → M' x y = M x y) (eP : ∀ u, u ≠ i → P' u = P u) (el : ∀ x y, x = 17 ∨ x = 19 ∨ x = 20 ∨ x = 21 ∨ x = 22 → M' x y = M x y) (hN : Kn n f M' P' i) : K n f M' P' := by
  refine ⟨fun u hu => ?_, fun l hl => ?_⟩
  · by_cases hui : u = i
    · subst hui; exact hN
    · exact Kn_fr hn5 hu (hK.1 u hu) (fun x h1 h2 => e x u h1 h2 hui) (fun x y hx h1 h2 => er x y hx (by omega)) (eP u hui)
  · rw [el 17 0 (by omega)] at hl
    exact Kl_fr (hK.2 l hl) (fun x h1 h2 => el x l (by omega))
theorem K_same {n f : Nat} {M M' : MM} {P : Nat → Nat} (hK : K n f M P) (hn5 : n ≤ 5) (e : ∀ x y, (5 ≤ x ∧ x ≤ 12) ∨ x = 15 ∨ x = 17 ∨ x = 19 ∨ x = 20 ∨ x = 21 ∨ x = 22 → M' x y = M x y) : K n f M' P := by
  refine ⟨fun u hu => Kn_fr hn5 hu (hK.1 u hu) (fun x h1 h2 => e x u (by omega)) (fun x y hx _ _ => e x y (by omega)) rfl, fun l hl => ?_⟩
  rw [e 17 0 (by omega)] at hl
  exact Kl_fr (hK.2 l hl) (fun x h1 h2 => e x l (by omega))
theorem K_post {n f : Nat} {M : MM} {P : Nat → Nat} (hK : K n f M P) (hn5 : n ≤ 5) {i j k v : Nat} (c : Nat) (hi : i < n) (hj : j < n) (hij : i ≠ j) (hk : 1 ≤ k ∧ k ≤ 7) (hv : v ≤ 1000) (hf : k = 1 ∨ k = 5 → v % n = i) : K n f (m_post M i j k v c) P := by
  refine ⟨fun u hu => Kn_fr hn5 hu (hK.1 u hu) (fun x h1 h2 => m_post_o _ _ _ _ _ _ (by omega)) (fun x y hx _ _ => m_post_o _ _ _ _ _ _ (by omega)) rfl, fun l hl => ?_⟩
  by_cases h240 : M 17 0 = 240
  · have e : m_post M i j k v c = up2 M 18 0 (M 18 0 + 1) := by simp only [m_post, if_pos h240]
    rw [e] at hl ⊢
    rw [up2_ne _ _ (by omega)] at hl
    exact Kl_fr (hK.2 l hl) (fun x h1 h2 => up2_ne _ _ (by omega))
  · obtain ⟨b1, ⟨c1, c2, c3, c4, c5⟩, b3, -⟩ := pq_post (i := i) (j := j) (k := k) (v := v) (c := c) h240
    by_cases hlm : l = M 17 0
    · subst hlm
      unfold Kl
      rw [c1, c2, c3, c4]
      exact ⟨hi, hj, hij, hk.1, hk.2, hv, hf⟩
    · exact Kl_fr (hK.2 l (by omega)) (fun x h1 h2 => b3 x l (by omega) hlm)
theorem K_pa {n f : Nat} {M : MM} {P : Nat → Nat} (hK : K n f M P) (hn5 : n ≤ 5) {i k v : Nat} (c : Nat) (hi : i < n) (hk : 1 ≤ k ∧ k ≤ 7) (hv : v ≤ 1000) (hf : k = 1 ∨ k = 5 → v % n = i) : ∀ j, j ≤ n → K n f (m_pa M i k v c j) P := by
  intro j
  induction j with
  | zero => intro _; exact hK
  | succ j ih =>
    intro hj
    unfold m_pa
    split
    · exact ih (by omega)
    · exact K_post (ih (by omega)) hn5 c hi (by omega) (by omega) hk hv hf
theorem fst_y {n : Nat} {M : MM} {i : Nat} (h : ¬ m_fst n M i = 0) : M 6 i % n = i := Classical.byContradiction fun z => h (if_neg z)
theorem fst_n {n : Nat} {M : MM} {i : Nat} (h : m_fst n M i = 0) : ¬ M 6 i % n = i := fun z => by rw [m_fst, if_pos z] at h; cases h
/-- a change of view -/
theorem J_chg {n : Nat} {M : MM} {i v : Nat} (hJ : J M) (hi : i < n) (hn5 : n ≤ 5) (hv : v < 2147483648) : J (m_chg n M i v) :=
  J_pa (J_fg (J_up (J_up hJ 6 i (by decide) (Or.inl hv)) 5 i (by decide) (Or.inl (by decide))) i) (by omega) (by decide) hv (by decide) n (by omega)
theorem K_chg {n f : Nat} {M : MM} {P : Nat → Nat} {i v : Nat} (hK : K n f M P) (hn5 : n ≤ 5) (hf1 : 1 ≤ f) (hi : i < n) (hv : v ≤ 1000) : K n f (m_chg n M i v) P := by
  obtain ⟨h1, h2, h3, h4, h5, h6, h7, h8, h9, h10, h11, h12⟩ := hK.1 i hi
  have o : ∀ x y, x ≠ 5 → x ≠ 6 → x ≠ 8 → x ≠ 11 → x ≠ 12 → m_fg (up2 (up2 M 6 i v) 5 i 1) i x y = M x y := fun x y a1 a2 a3 a4 a5 => by
    rw [m_fg_at, if_neg (fun z => a3 z.1), if_neg (by omega), up2_ne _ _ (fun z => a1 z.1), up2_ne _ _ (fun z => a2 z.1)]
  have ob : ∀ x y, x = 5 ∨ x = 6 ∨ x = 8 → y ≠ i → m_fg (up2 (up2 M 6 i v) 5 i 1) i x y = M x y := fun x y a1 a2 => by
    rw [m_fg_at, if_neg (fun z => a2 z.2), if_neg (by omega), up2_ne _ _ (fun z => a2 z.2), up2_ne _ _ (fun z => a2 z.2)]
  have or' : ∀ x y, x = 11 ∨ x = 12 → (y < 5 * i ∨ 5 * i + 5 ≤ y) → m_fg (up2 (up2 M 6 i v) 5 i 1) i x y = M x y := fun x y a1 a2 => by
    rw [m_fg_at, if_neg (by omega), if_neg (by omega), up2_ne _ _ (by omega), up2_ne _ _ (by omega)]
  have z : ∀ x y, x = 11 ∨ x = 12 → 5 * i ≤ y → y < 5 * i + 5 → m_fg (up2 (up2 M 6 i v) 5 i 1) i x y = 0 := fun x y a1 a2 a3 => by
    rw [m_fg_at, if_neg (by omega), if_pos ⟨a1, a2, a3⟩]
  have e5 : m_fg (up2 (up2 M 6 i v) 5 i 1) i 5 i = 1 := by rw [m_fg_at, if_neg (by omega), if_neg (by omega), up2_self]
  have e6 : m_fg (up2 (up2 M 6 i v) 5 i 1) i 6 i = v := by rw [m_fg_at, if_neg (by omega), if_neg (by omega), up2_ne _ _ (by omega), up2_self]
  have e8 : m_fg (up2 (up2 M 6 i v) 5 i 1) i 8 i = 0 := by rw [m_fg_at, if_pos ⟨rfl, rfl⟩]
  have ec : m_cnt (m_fg (up2 (up2 M 6 i v) 5 i 1) i) 11 (5 * i) n = 0 := m_cnt_z n (fun y hy => z 11 _ (by omega) (by omega) (by omega))
  have k0 : K n f (m_fg (up2 (up2 M 6 i v) 5 i 1) i) P := by
    refine K_node (i := i) hK hn5 (fun x y a1 a2 a3 => ?_) (fun x y a1 a2 => ?_) (fun _ _ => rfl) (fun x y a1 => o x y (by omega) (by omega) (by omega) (by omega) (by omega)) ?_
    · by_cases hx : x = 5 ∨ x = 6 ∨ x = 8
      · exact ob x y hx a3
      · exact o x y (by omega) (by omega) (by omega) (by omega) (by omega)
    · by_cases hx : x = 11 ∨ x = 12
      · exact or' x y hx a2
      · exact o x y (by omega) (by omega) (by omega) (by omega) (by omega)
    · unfold Kn
      rw [e5, e6, e8, ec, z 12 (5 * i + i) (by omega) (by omega) (by omega), o 10 (5 * i + i) (by decide) (by decide) (by decide) (by decide) (by decide)]
      refine ⟨by omega, hv, by omega, fun w => by omega, fun _ w => by omega, fun _ w => absurd rfl w, fun j hj => ?_, h8, fun w => by omega, h10, fun w => by omega, fun _ w => absurd rfl w⟩
      rw [z 11 _ (by omega) (by omega) (by omega), o 15 _ (by decide) (by decide) (by decide) (by decide) (by decide)]
      exact ⟨by omega, (h7 j hj).2⟩
  exact K_pa k0 hn5 0 hi (by omega) hv (by omega) n (Nat.le_refl _)
/-- an OK posted -/
theorem J_pok {n : Nat} {M : MM} {i : Nat} (hJ : J M) (hi : i < 295) : J (m_pok n M i) :=
  J_post hJ hi (Nat.lt_of_le_of_lt (Nat.mod_le _ _) (hJ.1.1 6 _ rfl)) (by decide) (hJ.1.1 6 _ rfl) (hJ.1.1 3 _ rfl)
theorem K_pok {n f : Nat} {M : MM} {P : Nat → Nat} {i : Nat} (hK : K n f M P) (hn5 : n ≤ 5) (hi : i < n) (h : ¬ M 6 i % n = i) : K n f (m_pok n M i) P :=
  K_post hK hn5 _ hi (Nat.mod_lt _ (by omega)) (fun z => h z.symm) (by omega) (hK.1 i hi).2.1 (by omega)
/-- a log heard of -/
theorem J_hav2 {M : MM} {g i s : Nat} (h : J M) (hg : g < 295) (hs : s ≤ M 3 g) : J (up2 (m_cp M g i) 4 i s) := by
  have := J_hav (i := i) (w := 0) h hg hs
  rw [up2_up2] at this
  exact this
theorem J_pre {n : Nat} {M : MM} {i g v : Nat} (hJ : J M) (hi : i < n) (hn5 : n ≤ 5) (hg : g < 295) (hv : v < 2147483648) : J (m_pre n M i g v).2 := by
  have hH : J (m_hav n M i g v) := J_pok (J_up (J_up (J_up (J_hav2 hJ hg (m_les_le _ _).2) 6 i (by decide) (Or.inl hv)) 7 i (by decide) (Or.inl hv)) 5 i (by decide) (Or.inl (by decide))) (by omega)
  unfold m_pre
  split
  · exact hH
  · split
    · exact hH
    · split
      · split
        · exact J_pok (J_hav2 hJ hg (m_les_le _ _).2) (by omega)
        · exact J_pok (J_sure hJ i (m_les_le _ _).2) (by omega)
      · exact hJ
theorem K_pre {n f : Nat} {M : MM} {P : Nat → Nat} {i g v : Nat} (hK : K n f M P) (hn5 : n ≤ 5) (hi : i < n) (hv : v ≤ 1000) (hvi : ¬ v % n = i) : K n f (m_pre n M i g v).2 P := by
  obtain ⟨h1, h2, h3, h4, h5, h6, h7, h8, h9, h10, h11, h12⟩ := hK.1 i hi
  have hH : K n f (m_hav n M i g v) P := by
    have o : ∀ s x y, x ≠ 2 → x ≠ 3 → x ≠ 4 → x ≠ 5 → x ≠ 6 → x ≠ 7 → up2 (up2 (up2 (up2 (m_cp M g i) 4 i s) 6 i v) 7 i v) 5 i 0 x y = M x y := fun s x y a2 a3 a4 a5 a6 a7 => by
      rw [up2_ne _ _ (fun z => a5 z.1), up2_ne _ _ (fun z => a7 z.1), up2_ne _ _ (fun z => a6 z.1), up2_ne _ _ (fun z => a4 z.1), m_cp_o _ _ _ ⟨a2, a3, a4⟩]
    have ob : ∀ s x y, x = 5 ∨ x = 6 ∨ x = 7 → y ≠ i → up2 (up2 (up2 (up2 (m_cp M g i) 4 i s) 6 i v) 7 i v) 5 i 0 x y = M x y := fun s x y a1 a2 => by
      rw [up2_ne _ _ (fun z => a2 z.2), up2_ne _ _ (fun z => a2 z.2), up2_ne _ _ (fun z => a2 z.2), up2_ne _ _ (fun z => a2 z.2), m_cp_o _ _ _ (by omega)]
    have e5 : ∀ s, up2 (up2 (up2 (up2 (m_cp M g i) 4 i s) 6 i v) 7 i v) 5 i 0 5 i = 0 := fun s => up2_self _ _ _ _
    have e7 : ∀ s, up2 (up2 (up2 (up2 (m_cp M g i) 4 i s) 6 i v) 7 i v) 5 i 0 7 i = v := fun s => by rw [up2_ne _ _ (by omega), up2_self]
    have e6 : ∀ s, up2 (up2 (up2 (up2 (m_cp M g i) 4 i s) 6 i v) 7 i v) 5 i 0 6 i = v := fun s => by rw [up2_ne _ _ (by omega), up2_ne _ _ (by omega), up2_self]
    unfold m_hav
    refine K_pok (K_node (i := i) hK hn5 (fun x y a1 a2 a3 => ?_) (fun x y a1 a2 => o _ x y (by omega) (by omega) (by omega) (by omega) (by omega) (by omega)) (fun _ _ => rfl) (fun x y a1 => o _ x y (by omega) (by omega) (by omega) (by omega) (by omega) (by omega)) ?_) hn5 hi (by rw [e6]; exact hvi)
    · by_cases hx : x = 5 ∨ x = 6 ∨ x = 7
      · exact ob _ x y hx a3
      · exact o _ x y (by omega) (by omega) (by omega) (by omega) (by omega) (by omega)
    · unfold Kn
      rw [e5, e6, e7, o _ 8 i (by decide) (by decide) (by decide) (by decide) (by decide) (by decide), o _ 10 (5 * i + i) (by decide) (by decide) (by decide) (by decide) (by decide) (by decide)]
      refine ⟨by omega, hv, h3, fun _ => rfl, fun w => by omega, fun w => by omega, fun j hj => ?_, h8, fun w => by omega, h10, fun w => by omega, fun w => by omega⟩
      rw [o _ 11 _ (by decide) (by decide) (by decide) (by decide) (by decide) (by decide), o _ 15 _ (by decide) (by decide) (by decide) (by decide) (by decide) (by decide)]
      exact h7 j hj
  unfold m_pre
  split
  · exact hH
  · split
    · exact hH
    · split
      · rename_i hf0
        have hfn := fst_n hf0
        split
        · exact K_pok (K_same hK hn5 (fun x y hx => by rw [up2_ne _ _ (by omega), m_cp_o _ _ _ (by omega)])) hn5 hi (by rw [up2_ne _ _ (by omega), m_cp_o _ _ _ (by decide)]; exact hfn)
        · exact K_pok (K_same hK hn5 (fun x y hx => up2_ne _ _ (by omega))) hn5 hi (by rw [up2_ne _ _ (by omega)]; exact hfn)
      · exact hK
/-- an OK heard -/
theorem m_hr_ex {n f : Nat} (M : MM) (i : Nat) : ∀ x, ∃ s, m_hr n f M i x = up2 M 4 i s ∧ s ≤ max (M 4 i) x := by
  intro x
  induction x with
  | zero => exact ⟨M 4 i, (up2_id rfl).symm, by omega⟩
  | succ x ih =>
    unfold m_hr
    split
    · exact ⟨M 4 i, (up2_id rfl).symm, by omega⟩
    · split
      · obtain ⟨s, e, hs⟩ := ih; exact ⟨s, e, by omega⟩
      · exact ⟨x + 1, rfl, by omega⟩
theorem J_hea {n f : Nat} {M : MM} {i s v c : Nat} (hJ : J M) (hi : i < n) (hn5 : n ≤ 5) (hc : c < 2147483648) : J (m_hea n f M i s v c).2 := by
  unfold m_hea
  split
  · split
    · exact hJ
    · split
      · have h1 := J_up hJ 10 (5 * i + s) (v := m_gre (M 10 (5 * i + s)) c) (by decide) (Or.inl (m_gre_le (hJ.1.1 10 _ rfl) hc))
        obtain ⟨q, e, hq⟩ := m_hr_ex (n := n) (f := f) (up2 M 10 (5 * i + s) (m_gre (M 10 (5 * i + s)) c)) i (M 3 i)
        show J (m_hr n f (up2 M 10 (5 * i + s) (m_gre (M 10 (5 * i + s)) c)) i (M 3 i))
        rw [e]
        refine J_sure h1 i ?_
        have e4 : up2 M 10 (5 * i + s) (m_gre (M 10 (5 * i + s)) c) 4 i = M 4 i := up2_ne _ _ (by omega)
        have e3 : up2 M 10 (5 * i + s) (m_gre (M 10 (5 * i + s)) c) 3 i = M 3 i := up2_ne _ _ (by omega)
        rw [e4] at hq
        rw [e3]
        have := (hJ.2.1 i (by omega)).2
        omega
      · exact hJ
  · exact hJ
theorem K_hea {n f : Nat} {M : MM} {P : Nat → Nat} {i s v c : Nat} (hK : K n f M P) (hn5 : n ≤ 5) (hi : i < n) (hs : s < n) (hsi : s ≠ i) : K n f (m_hea n f M i s v c).2 P := by
  unfold m_hea
  split
  · split
    · exact hK
    · split
      · show K n f (m_hr n f (up2 M 10 (5 * i + s) (m_gre (M 10 (5 * i + s)) c)) i (M 3 i)) P
        obtain ⟨q, e, -⟩ := m_hr_ex (n := n) (f := f) (up2 M 10 (5 * i + s) (m_gre (M 10 (5 * i + s)) c)) i (M 3 i)
        rw [e]
        have o : ∀ x y, x ≠ 4 → x ≠ 10 → up2 (up2 M 10 (5 * i + s) (m_gre (M 10 (5 * i + s)) c)) 4 i q x y = M x y := fun x y a1 a2 => by
          rw [up2_ne _ _ (fun z => a1 z.1), up2_ne _ _ (fun z => a2 z.1)]
        obtain ⟨h1, h2, h3, h4, h5, h6, h7, h8, h9, h10, h11, h12⟩ := hK.1 i hi
        refine K_node (i := i) hK hn5 (fun x y a1 a2 a3 => o x y (by omega) (by omega)) (fun x y a1 a2 => ?_) (fun _ _ => rfl) (fun x y a1 => o x y (by omega) (by omega)) ?_
        · rw [up2_ne _ _ (by omega), up2_ne _ _ (by omega)]
        · have ec : m_cnt (up2 (up2 M 10 (5 * i + s) (m_gre (M 10 (5 * i + s)) c)) 4 i q) 11 (5 * i) n = m_cnt M 11 (5 * i) n := m_cnt_c n (fun y hy => o 11 _ (by decide) (by decide))
          have e10 : up2 (up2 M 10 (5 * i + s) (m_gre (M 10 (5 * i + s)) c)) 4 i q 10 (5 * i + i) = 0 := by rw [up2_ne _ _ (by omega), up2_ne _ _ (by omega)]; exact h8
          unfold Kn
          rw [o 5 _ (by decide) (by decide), o 6 _ (by decide) (by decide), o 7 _ (by decide) (by decide), o 8 _ (by decide) (by decide), o 9 _ (by decide) (by decide), ec, e10, o 12 _ (by decide) (by decide)]
          exact ⟨h1, h2, h3, h4, h5, h6, fun j hj => by rw [o 11 _ (by decide) (by decide), o 15 _ (by decide) (by decide)]; exact h7 j hj, rfl, h9, h10, h11, h12⟩
      · exact hK
  · exact hK
/-- a vote taken -/
theorem J_vt {M : MM} {i s g c : Nat} (hJ : J M) (hg : g < 295) (hc : c < 2147483648) : J (m_vt M i s g c) :=
  J_cp (J_up (J_up hJ 12 _ (by decide) (Or.inl (by decide))) 13 _ (by decide) (Or.inl hc)) hg
theorem J_tv2 {n f : Nat} {M : MM} {i : Nat} (hJ : J M) (hi : i < n) (hn5 : n ≤ 5) : J (m_tv2 n f M i).2 := by
  unfold m_tv2
  split
  · exact hJ
  · split
    · exact hJ
    · have hb : (m_bst M i n).getD 0 < 5 := by
        cases hb0 : m_bst M i n with
        | none => show (0 : Nat) < 5; decide
        | some k => have := m_bst_lt M i n k hb0; show k < 5; omega
      have h6 := hJ.1.1 6 i rfl
      have hz : J (m_z n M i ((m_bst M i n).getD 0)) := J_up (J_up (J_hav2 hJ (by omega) (m_les_le _ _).2) 5 i (by decide) (Or.inl (by decide))) 7 i (by decide) (Or.inl h6)
      have hk := J_kz hz i 5
      exact J_pa hk (by omega) (by decide) (hk.1.1 6 _ rfl) (by decide) n (by omega)
theorem J_tv {n f : Nat} {M : MM} {i s g c : Nat} (hJ : J M) (hi : i < n) (hn5 : n ≤ 5) (hg : g < 295) (hc : c < 2147483648) : J (m_tv n f M i s g c).2 := by
  unfold m_tv
  split
  · split
    · exact J_tv2 (J_vt hJ hg hc) hi hn5
    · exact hJ
  · exact hJ
theorem m_vt_o {M : MM} {i s g c : Nat} {x y : Nat} (h : x ≠ 2 ∧ x ≠ 3 ∧ x ≠ 4 ∧ x ≠ 12 ∧ x ≠ 13) : m_vt M i s g c x y = M x y := by
  unfold m_vt
  rw [m_cp_o _ _ _ ⟨h.1, h.2.1, h.2.2.1⟩, up2_ne _ _ (by omega), up2_ne _ _ (by omega)]
theorem m_vt_12 {M : MM} {i s g c : Nat} {y : Nat} (h : y ≠ 5 * i + s) : m_vt M i s g c 12 y = M 12 y := by
  unfold m_vt
  rw [m_cp_o _ _ _ (by decide), up2_ne _ _ (by omega), up2_ne _ _ (by omega)]
theorem K_vt {n f : Nat} {M : MM} {P : Nat → Nat} {i s g c : Nat} (hK : K n f M P) (hn5 : n ≤ 5) (hi : i < n) (hs : s < n) (h8 : s = i → M 8 i ≠ 0) (h6 : M 6 i % n = i) : K n f (m_vt M i s g c) P := by
  obtain ⟨a1, a2, a3, a4, a5, a6, a7, a8, a9, a10, a11, a12⟩ := hK.1 i hi
  refine K_node (i := i) hK hn5 (fun x y b1 b2 b3 => m_vt_o (by omega)) (fun x y b1 b2 => ?_) (fun _ _ => rfl) (fun x y b1 => m_vt_o (by omega)) ?_
  · by_cases hx : x = 12
    · subst hx; exact m_vt_12 (by omega)
    · exact m_vt_o (by omega)
  · have ec : m_cnt (m_vt M i s g c) 11 (5 * i) n = m_cnt M 11 (5 * i) n := m_cnt_c n (fun y hy => m_vt_o (by decide))
    unfold Kn
    rw [m_vt_o (x := 5) (by decide), m_vt_o (x := 6) (by decide), m_vt_o (x := 7) (by decide), m_vt_o (x := 8) (by decide), m_vt_o (x := 9) (by decide), m_vt_o (x := 10) (by decide), ec]
    refine ⟨a1, a2, a3, a4, a5, fun w1 w2 => ?_, fun j hj => ?_, a8, a9, a10, a11, fun _ _ => h6⟩
    · by_cases hsi : s = i
      · exact h8 hsi
      · rw [m_vt_12 (by omega)] at w2; exact a6 w1 w2
    · rw [m_vt_o (x := 11) (by decide), m_vt_o (x := 15) (by decide)]; exact a7 j hj
theorem K_tv2 {n f : Nat} {M : MM} {P : Nat → Nat} {i : Nat} (hK : K n f M P) (hn5 : n ≤ 5) (hi : i < n) (h5 : M 5 i = 1) : K n f (m_tv2 n f M i).2 P := by
  unfold m_tv2
  split
  · exact hK
  · split
    · exact hK
    · rename_i h12
      obtain ⟨a1, a2, a3, a4, a5, a6, a7, a8, a9, a10, a11, a12⟩ := hK.1 i hi
      have h6 := a12 h5 h12
      generalize (m_bst M i n).getD 0 = q
      have o : ∀ x y, x ≠ 2 → x ≠ 3 → x ≠ 4 → x ≠ 5 → x ≠ 7 → x ≠ 10 → m_kz (m_z n M i q) i 5 x y = M x y := fun x y b2 b3 b4 b5 b7 b10 => by
        unfold m_kz m_z
        rw [if_neg (fun z => b10 z.1), up2_ne _ _ (fun z => b7 z.1), up2_ne _ _ (fun z => b5 z.1), up2_ne _ _ (fun z => b4 z.1), m_cp_o _ _ _ ⟨b2, b3, b4⟩]
      have ob : ∀ x y, x = 5 ∨ x = 7 → y ≠ i → m_kz (m_z n M i q) i 5 x y = M x y := fun x y b1 b2 => by
        unfold m_kz m_z
        rw [if_neg (by omega), up2_ne _ _ (fun z => b2 z.2), up2_ne _ _ (fun z => b2 z.2), up2_ne _ _ (fun z => b2 z.2), m_cp_o _ _ _ (by omega)]
      have e5 : m_kz (m_z n M i q) i 5 5 i = 0 := by
        unfold m_kz m_z
        rw [if_neg (by omega), up2_ne _ _ (by omega), up2_self]
      have e7 : m_kz (m_z n M i q) i 5 7 i = M 6 i := by
        unfold m_kz m_z
        rw [if_neg (by omega), up2_self]
      have e10 : m_kz (m_z n M i q) i 5 10 (5 * i + i) = 0 := by
        unfold m_kz
        rw [if_pos (by omega)]
      have e6 : m_kz (m_z n M i q) i 5 6 i = M 6 i := o 6 i (by decide) (by decide) (by decide) (by decide) (by decide) (by decide)
      show K n f (m_pa (m_kz (m_z n M i q) i 5) i 5 (m_kz (m_z n M i q) i 5 6 i) 0 n) P
      rw [e6]
      refine K_pa (K_node (i := i) hK hn5 (fun x y b1 b2 b3 => ?_) (fun x y b1 b2 => ?_) (fun _ _ => rfl) (fun x y b1 => o x y (by omega) (by omega) (by omega) (by omega) (by omega) (by omega)) ?_) hn5 0 hi (by omega) a2 (fun _ => h6) n (Nat.le_refl _)
      · by_cases hx : x = 5 ∨ x = 7
        · exact ob x y hx b3
        · exact o x y (by omega) (by omega) (by omega) (by omega) (by omega) (by omega)
      · by_cases hx : x = 10
        · subst hx
          unfold m_kz m_z
          rw [if_neg (by omega), up2_ne _ _ (by omega), up2_ne _ _ (by omega), up2_ne _ _ (by omega), m_cp_o _ _ _ (by decide)]
        · exact o x y (by omega) (by omega) (by omega) (by omega) (by omega) (by omega)
      · unfold Kn
        rw [e5, e6, e7, e10, o 8 i (by decide) (by decide) (by decide) (by decide) (by decide) (by decide)]
        refine ⟨by omega, a2, a3, fun _ => rfl, fun w => by omega, fun w => by omega, fun j hj => ?_, rfl, fun w => by omega, a10, fun w => by omega, fun w => by omega⟩
        rw [o 11 _ (by decide) (by decide) (by decide) (by decide) (by decide) (by decide), o 15 _ (by decide) (by decide) (by decide) (by decide) (by decide) (by decide)]
        exact a7 j hj
theorem K_tv {n f : Nat} {M : MM} {P : Nat → Nat} {i s g c : Nat} (hK : K n f M P) (hn5 : n ≤ 5) (hi : i < n) (hs : s < n) (h8 : s = i → M 8 i ≠ 0) (h6 : M 6 i % n = i) : K n f (m_tv n f M i s g c).2 P := by
  unfold m_tv
  split
  · rename_i h5
    split
    · exact K_tv2 (K_vt (g := g) (c := c) hK hn5 hi hs h8 h6) hn5 hi ((m_vt_o (g := g) (c := c) (by decide)).trans h5)
    · exact hK
  · exact hK
/-- votes asked for -/
theorem J_ask2 {n f : Nat} {M : MM} {i s d : Nat} (hJ : J M) (hi : i < n) (hn5 : n ≤ 5) : J (m_ask2 n f M i s d).2 := by
  have h1 := J_up hJ 11 (5 * i + s) (v := 1) (by decide) (Or.inl (by decide))
  have h2 := J_up h1 8 i (v := 1) (by decide) (Or.inl (by decide))
  have h6 := hJ.1.1 6 i rfl
  have h7 := hJ.1.1 7 i rfl
  unfold m_ask2
  split
  · split
    · exact h1
    · split
      · split
        · exact J_post h2 (by omega) (Nat.lt_of_le_of_lt (Nat.mod_le _ _) h6) (by decide) h6 h7
        · exact J_tv h2 hi hn5 (by omega) h7
      · exact h1
  · exact hJ
theorem K_11 {n f : Nat} {M : MM} {P : Nat → Nat} {i s w : Nat} (hK : K n f M P) (hn5 : n ≤ 5) (hi : i < n) (hs : s < n) (hw : w = M 8 i ∨ w = 1) (hc : f ≤ m_cnt (up2 M 11 (5 * i + s) 1) 11 (5 * i) n → w ≠ 0) : K n f (up2 (up2 M 11 (5 * i + s) 1) 8 i w) P := by
  obtain ⟨a1, a2, a3, a4, a5, a6, a7, a8, a9, a10, a11, a12⟩ := hK.1 i hi
  have o : ∀ x y, x ≠ 8 → x ≠ 11 → up2 (up2 M 11 (5 * i + s) 1) 8 i w x y = M x y := fun x y b1 b2 => by
    rw [up2_ne _ _ (fun z => b1 z.1), up2_ne _ _ (fun z => b2 z.1)]
  have ec : m_cnt (up2 (up2 M 11 (5 * i + s) 1) 8 i w) 11 (5 * i) n = m_cnt (up2 M 11 (5 * i + s) 1) 11 (5 * i) n := m_cnt_c n (fun y hy => up2_ne _ _ (by omega))
  have e8 : up2 (up2 M 11 (5 * i + s) 1) 8 i w 8 i = w := up2_self _ _ _ _
  refine K_node (i := i) hK hn5 (fun x y b1 b2 b3 => ?_) (fun x y b1 b2 => ?_) (fun _ _ => rfl) (fun x y b1 => o x y (by omega) (by omega)) ?_
  · rw [up2_ne _ _ (fun z => b3 z.2), up2_ne _ _ (by omega)]
  · rw [up2_ne _ _ (by omega), up2_ne _ _ (by omega)]
  · unfold Kn
    rw [o 5 _ (by decide) (by decide), o 6 _ (by decide) (by decide), o 7 _ (by decide) (by decide), o 9 _ (by decide) (by decide), o 10 _ (by decide) (by decide), o 12 _ (by decide) (by decide), ec, e8]
    refine ⟨a1, a2, by omega, a4, fun _ w2 => hc w2, fun w1 w2 => ?_, fun j hj => ?_, a8, a9, a10, a11, a12⟩
    · have := a6 w1 w2; omega
    · rw [o 15 _ (by decide) (by decide)]
      refine ⟨?_, (a7 j hj).2⟩
      rw [up2_ne _ _ (by omega)]
      by_cases hj2 : j = s
      · subst hj2; rw [up2_self]; exact Nat.le_refl _
      · rw [up2_ne _ _ (by omega)]; exact (a7 j hj).1
theorem K_ask2 {n f : Nat} {M : MM} {P : Nat → Nat} {i s d : Nat} (hK : K n f M P) (hn5 : n ≤ 5) (hi : i < n) (hs : s < n) : K n f (m_ask2 n f M i s d).2 P := by
  obtain ⟨a1, a2, a3, a4, a5, a6, a7, a8, a9, a10, a11, a12⟩ := hK.1 i hi
  have e8 : up2 (up2 M 11 (5 * i + s) 1) 8 i (M 8 i) = up2 M 11 (5 * i + s) 1 := up2_id (up2_ne _ _ (by omega))
  unfold m_ask2
  split
  · split
    · rename_i hc
      have := K_11 (w := M 8 i) hK hn5 hi hs (Or.inl rfl) (fun z => by omega)
      rw [e8] at this; exact this
    · split
      · have hk := K_11 (w := 1) hK hn5 hi hs (Or.inr rfl) (fun _ => by decide)
        have e6 : up2 (up2 M 11 (5 * i + s) 1) 8 i 1 6 i = M 6 i := by rw [up2_ne _ _ (by omega), up2_ne _ _ (by omega)]
        split
        · rename_i hf0
          have := fst_n hf0
          rw [e6] at this
          exact K_post hk hn5 _ hi (Nat.mod_lt _ (by omega)) (fun z => this z.symm) (by omega) a2 (by omega)
        · rename_i hf0
          exact K_tv hk hn5 hi hi (fun _ => by rw [up2_self]; decide) (fst_y hf0)
      · rename_i h8
        have := K_11 (w := M 8 i) hK hn5 hi hs (Or.inl rfl) (fun _ => h8)
        rw [e8] at this; exact this
  · exact hK
/-- tales -/
theorem J_tal {n f : Nat} {M : MM} {i s g v c : Nat} (hJ : J M) (hi : i < n) (hn5 : n ≤ 5) (hg : g < 295) (hv : v < 2147483648) : J (m_tal n f M i s g v c).2 := by
  have h1 : J (m_tl M i s g v) := J_cp (J_up (J_up hJ 14 _ (by decide) (Or.inl (by decide))) 15 _ (by decide) (Or.inl hv)) hg
  unfold m_tal
  split
  · split
    · show J (m_tal2 n f (m_tl M i s g v) i)
      rw [tal2_bel]
      split
      · exact h1
      · exact J_bel h1 hi hn5
    · exact hJ
  · exact hJ
theorem m_tl_o {M : MM} {i s g v : Nat} {x y : Nat} (h : x ≠ 2 ∧ x ≠ 3 ∧ x ≠ 4 ∧ x ≠ 14 ∧ x ≠ 15) : m_tl M i s g v x y = M x y := by
  unfold m_tl
  rw [m_cp_o _ _ _ ⟨h.1, h.2.1, h.2.2.1⟩, up2_ne _ _ (by omega), up2_ne _ _ (by omega)]
theorem tmx_le {M : MM} {i : Nat} : ∀ j, (∀ y, y < j → M 15 (5 * i + y) ≤ 1000) → m_tmx M i j ≤ 1000 := by
  intro j
  induction j with
  | zero => intro _; show (0 : Nat) ≤ 1000; decide
  | succ j ih =>
    intro h
    have h1 := ih (fun y hy => h y (by omega))
    have h2 := h j (by omega)
    unfold m_tmx
    split
    · exact h1
    · exact gre_le h1 h2
theorem K_tl {n f : Nat} {M : MM} {P : Nat → Nat} {i s g v : Nat} (hK : K n f M P) (hn5 : n ≤ 5) (hi : i < n) (hs : s < n) (hv : v ≤ 1000) : K n f (m_tl M i s g v) P := by
  obtain ⟨a1, a2, a3, a4, a5, a6, a7, a8, a9, a10, a11, a12⟩ := hK.1 i hi
  have e15 : ∀ y, m_tl M i s g v 15 y = up2 M 15 (5 * i + s) v 15 y := fun y => by
    unfold m_tl
    rw [m_cp_o _ _ _ (by decide)]
    unfold up2
    by_cases hy : y = 5 * i + s
    · rw [if_pos ⟨rfl, hy⟩, if_pos ⟨rfl, hy⟩]
    · rw [if_neg (fun z => hy z.2), if_neg (by omega), if_neg (fun z => hy z.2)]
  refine K_node (i := i) hK hn5 (fun x y b1 b2 b3 => m_tl_o (by omega)) (fun x y b1 b2 => ?_) (fun _ _ => rfl) (fun x y b1 => m_tl_o (by omega)) ?_
  · by_cases hx : x = 15
    · subst hx; rw [e15, up2_ne _ _ (by omega)]
    · exact m_tl_o (by omega)
  · have ec : m_cnt (m_tl M i s g v) 11 (5 * i) n = m_cnt M 11 (5 * i) n := m_cnt_c n (fun y hy => m_tl_o (by decide))
    unfold Kn
    rw [m_tl_o (x := 5) (by decide), m_tl_o (x := 6) (by decide), m_tl_o (x := 7) (by decide), m_tl_o (x := 8) (by decide), m_tl_o (x := 9) (by decide), m_tl_o (x := 10) (by decide), m_tl_o (x := 12) (by decide), ec]
    refine ⟨a1, a2, a3, a4, a5, a6, fun j hj => ?_, a8, a9, a10, a11, a12⟩
    rw [m_tl_o (x := 11) (by decide), e15]
    refine ⟨(a7 j hj).1, ?_⟩
    by_cases hjs : j = s
    · subst hjs; rw [up2_self]; exact hv
    · rw [up2_ne _ _ (by omega)]; exact (a7 j hj).2
theorem K_bel {n f : Nat} {M : MM} {P : Nat → Nat} {i : Nat} (hK : K n f M P) (hn5 : n ≤ 5) (hi : i < n) : K n f (c_bel n M i) P := by
  obtain ⟨a1, a2, a3, a4, a5, a6, a7, a8, a9, a10, a11, a12⟩ := hK.1 i hi
  have ht : m_tmx M i n ≤ 1000 := tmx_le n (fun y hy => (a7 y hy).2)
  unfold c_bel
  split
  · exact hK
  · split
    · generalize m_tmx M i n = t at ht
      generalize 30 + 5 * i + t % n = g
      have o : ∀ x y, x ≠ 2 → x ≠ 3 → x ≠ 4 → x ≠ 5 → x ≠ 6 → x ≠ 7 → up2 (up2 (up2 (m_cp M g i) 6 i t) 7 i t) 5 i 0 x y = M x y := fun x y b2 b3 b4 b5 b6 b7 => by
        rw [up2_ne _ _ (fun z => b5 z.1), up2_ne _ _ (fun z => b7 z.1), up2_ne _ _ (fun z => b6 z.1), m_cp_o _ _ _ ⟨b2, b3, b4⟩]
      have ob : ∀ x y, x = 5 ∨ x = 6 ∨ x = 7 → y ≠ i → up2 (up2 (up2 (m_cp M g i) 6 i t) 7 i t) 5 i 0 x y = M x y := fun x y b1 b2 => by
        rw [up2_ne _ _ (fun z => b2 z.2), up2_ne _ _ (fun z => b2 z.2), up2_ne _ _ (fun z => b2 z.2), m_cp_o _ _ _ (by omega)]
      have e5 : up2 (up2 (up2 (m_cp M g i) 6 i t) 7 i t) 5 i 0 5 i = 0 := up2_self _ _ _ _
      have e7 : up2 (up2 (up2 (m_cp M g i) 6 i t) 7 i t) 5 i 0 7 i = t := by rw [up2_ne _ _ (by omega), up2_self]
      have e6 : up2 (up2 (up2 (m_cp M g i) 6 i t) 7 i t) 5 i 0 6 i = t := by rw [up2_ne _ _ (by omega), up2_ne _ _ (by omega), up2_self]
      refine K_node (i := i) hK hn5 (fun x y b1 b2 b3 => ?_) (fun x y b1 b2 => o x y (by omega) (by omega) (by omega) (by omega) (by omega) (by omega)) (fun _ _ => rfl) (fun x y b1 => o x y (by omega) (by omega) (by omega) (by omega) (by omega) (by omega)) ?_
      · by_cases hx : x = 5 ∨ x = 6 ∨ x = 7
        · exact ob x y hx b3
        · exact o x y (by omega) (by omega) (by omega) (by omega) (by omega) (by omega)
      · unfold Kn
        rw [e5, e6, e7, o 8 i (by decide) (by decide) (by decide) (by decide) (by decide) (by decide), o 10 (5 * i + i) (by decide) (by decide) (by decide) (by decide) (by decide) (by decide)]
        refine ⟨by omega, ht, a3, fun _ => rfl, fun w => by omega, fun w => by omega, fun j hj => ?_, a8, fun w => by omega, a10, fun w => by omega, fun w => by omega⟩
        rw [o 11 _ (by decide) (by decide) (by decide) (by decide) (by decide) (by decide), o 15 _ (by decide) (by decide) (by decide) (by decide) (by decide) (by decide)]
        exact a7 j hj
    · exact hK
theorem K_tal {n f : Nat} {M : MM} {P : Nat → Nat} {i s g v c : Nat} (hK : K n f M P) (hn5 : n ≤ 5) (hi : i < n) (hs : s < n) (hv : v ≤ 1000) : K n f (m_tal n f M i s g v c).2 P := by
  unfold m_tal
  split
  · split
    · show K n f (m_tal2 n f (m_tl M i s g v) i) P
      rw [tal2_bel]
      split
      · exact K_tl hK hn5 hi hs hv
      · exact K_bel (K_tl hK hn5 hi hs hv) hn5 hi
    · exact hK
  · exact hK
/-- all that is kept -/
def Ij (n f : Nat) (M : MM) (P : Nat → Nat) : Prop := J M ∧ K n f M P
theorem I_ask {n f : Nat} {M : MM} {P : Nat → Nat} {i s v : Nat} (h : Ij n f M P) (hn5 : n ≤ 5) (hf1 : 1 ≤ f) (hi : i < n) (hs : s < n) (hv : v ≤ 1000) : Ij n f (m_ask n f M i s v).2 P := by
  unfold m_ask
  split
  · exact ⟨J_ask2 h.1 hi hn5, K_ask2 h.2 hn5 hi hs⟩
  · exact ⟨J_ask2 (J_chg h.1 hi hn5 (by omega)) hi hn5, K_ask2 (K_chg h.2 hn5 hf1 hi hv) hn5 hi hs⟩
theorem I_vot {n f : Nat} {M : MM} {P : Nat → Nat} {i s g v c : Nat} (h : Ij n f M P) (hn5 : n ≤ 5) (hf1 : 1 ≤ f) (hi : i < n) (hs : s < n) (hsi : s ≠ i) (hv : v ≤ 1000) (hg : g < 295) (hc : c < 2147483648) (h6 : M 6 i ≤ v) : Ij n f (m_vot n f M i s g v c).2 P := by
  unfold m_vot
  split
  · rename_i hvi
    split
    · exact ⟨J_tv h.1 hi hn5 hg hc, K_tv h.2 hn5 hi hs (fun z => absurd z hsi) (by rw [show M 6 i = v by omega]; exact hvi)⟩
    · exact ⟨J_tv (J_chg h.1 hi hn5 (by omega)) hi hn5 hg hc, K_tv (K_chg h.2 hn5 hf1 hi hv) hn5 hi hs (fun z => absurd z hsi) (by rw [chg_at.2.1]; exact hvi)⟩
  · exact h
theorem I_does {n f : Nat} {M : MM} {P : Nat → Nat} {l : Nat} (h : Ij n f M P) (hn5 : n ≤ 5) (hf1 : 1 ≤ f) (hl : l < M 17 0) : Ij n f (m_does n f M l).2 P := by
  obtain ⟨k1, k2, k3, k4, k5, k6, k7⟩ := h.2.2 l hl
  have h17 := h.1.1.2
  have b22 := h.1.1.1 22 l rfl
  have b23 := h.1.1.1 23 l rfl
  have b6 := h.1.1.1 6 (M 20 l) rfl
  have hkn := h.2.1 (M 20 l) k2
  have d2 : 5 < M 21 l ∨ M 6 (M 20 l) ≤ M 22 l → Ij n f (m_does2 n f M l).2 P := by
    intro hor
    unfold m_does2
    by_cases c1 : M 21 l = 1
    · rw [if_pos c1]; exact ⟨J_pre h.1 k2 hn5 (by omega) b22, K_pre h.2 hn5 k2 k6 (by rw [k7 (Or.inl c1)]; exact k3)⟩
    rw [if_neg c1]
    by_cases c2 : M 21 l = 2
    · rw [if_pos c2]; exact ⟨J_hea h.1 k2 hn5 b23, K_hea h.2 hn5 k2 k1 k3⟩
    rw [if_neg c2]
    by_cases c3 : M 21 l = 3
    · rw [if_pos c3]; exact I_ask h hn5 hf1 k2 k1 k6
    rw [if_neg c3]
    by_cases c4 : M 21 l = 4
    · rw [if_pos c4]; exact I_vot h hn5 hf1 k2 k1 k3 k6 (by omega) b23 (by omega)
    rw [if_neg c4]
    by_cases c5 : M 21 l = 5
    · rw [if_pos c5]; exact ⟨J_pre h.1 k2 hn5 (by omega) b22, K_pre h.2 hn5 k2 k6 (by rw [k7 (Or.inr c5)]; exact k3)⟩
    rw [if_neg c5]
    by_cases c6 : M 21 l = 6
    · rw [if_pos c6]
      split
      · exact ⟨J_post h.1 (by omega) (by omega) (by decide) b6 b23, K_post h.2 hn5 _ k2 k1 (fun z => k3 z.symm) (by omega) hkn.2.1 (by omega)⟩
      · exact h
    rw [if_neg c6]
    exact ⟨J_tal h.1 k2 hn5 (by omega) b22, K_tal h.2 hn5 k2 k1 k6⟩
  unfold m_does
  split
  · exact d2 (Or.inl (by assumption))
  · split
    · exact h
    · split
      · exact d2 (Or.inr (by assumption))
      · exact h
theorem I_deliver {n f : Nat} {M : MM} {P : Nat → Nat} (h : Ij n f M P) (hn5 : n ≤ 5) (hf1 : 1 ≤ f) (lt : Int32) : Ij n f (m_deliver n f M lt).2 P := by
  unfold m_deliver
  split
  · exact h
  · rename_i hth
    split
    · refine I_does h hn5 hf1 ?_
      unfold m_there at hth
      have hin : m_in lt (nI 0) (nI (M 17 0) - nI 1) ≠ 0 := fun z => hth (if_pos z)
      obtain ⟨j, hj, rfl⟩ := m_inL_of h.1.1.2 hin
      have := h.1.1.2
      rw [tN_nI (by omega)]; exact hj
    · exact h
theorem I_drop {n f : Nat} {M : MM} {P : Nat → Nat} (h : Ij n f M P) (hn5 : n ≤ 5) (lt : Int32) : Ij n f (m_drop M lt).2 P := by
  unfold m_drop
  split
  · exact h
  · rename_i hth
    unfold m_there at hth
    have hin : m_in lt (nI 0) (nI (M 17 0) - nI 1) ≠ 0 := fun z => hth (if_pos z)
    obtain ⟨j, hj, rfl⟩ := m_inL_of h.1.1.2 hin
    have := h.1.1.2
    rw [tN_nI (by omega)]
    exact ⟨J_drop h.1 hj (by decide), K_same h.2 hn5 (fun x y hx => up2_ne _ _ (by omega))⟩
theorem I_cut {n f : Nat} {M : MM} {P : Nat → Nat} (h : Ij n f M P) (hn5 : n ≤ 5) (ci cj : Int32) (on : Nat) (hon : on ≤ 1) : Ij n f (m_cut n M ci cj on).2 P := by
  unfold m_cut
  split
  · exact h
  · split
    · exact h
    · split
      · exact h
      · show Ij n f (up2 (up2 M 16 (5 * tN ci + tN cj) on) 16 (5 * tN cj + tN ci) on) P
        exact ⟨J_up (J_up h.1 16 _ (by decide) (Or.inl (by omega))) 16 _ (by decide) (Or.inl (by omega)), K_same h.2 hn5 (fun x y hx => by rw [up2_ne _ _ (by omega), up2_ne _ _ (by omega)])⟩
theorem I_timeout {n f : Nat} {M : MM} {P : Nat → Nat} (h : Ij n f M P) (hn0 : 0 < n) (hn5 : n ≤ 5) (hf1 : 1 ≤ f) (nd : Int32) : Ij n f (m_timeout n M nd).2 P := by
  unfold m_timeout
  split
  · exact h
  · rename_i hnd
    obtain ⟨i, hi, rfl⟩ := m_isNode_of hn0 (by omega) hnd
    rw [tN_nI (by omega)]
    have hk := (h.2.1 i hi).2.1
    split
    · split
      · exact h
      · exact ⟨J_chg h.1 hi hn5 (by omega), K_chg h.2 hn5 hf1 hi (by omega)⟩
    · exact h
theorem I_resend {n f : Nat} {M : MM} {P : Nat → Nat} (h : Ij n f M P) (hn0 : 0 < n) (hn5 : n ≤ 5) (nd : Int32) : Ij n f (m_resend n M nd).2 P := by
  unfold m_resend
  split
  · exact h
  · rename_i hnd
    obtain ⟨i, hi, rfl⟩ := m_isNode_of hn0 (by omega) hnd
    rw [tN_nI (by omega)]
    have hk := (h.2.1 i hi).2.1
    have b6 := h.1.1.1 6 i rfl
    have b9 := h.1.1.1 9 i rfl
    split
    · split
      · rename_i hf0
        exact ⟨J_pok h.1 (by omega), K_pok h.2 hn5 hi (fst_n hf0)⟩
      · rename_i hf0
        exact ⟨J_pa h.1 (by omega) (by decide) b6 (by decide) n (by omega), K_pa h.2 hn5 0 hi (by omega) hk (fun _ => fst_y hf0) n (Nat.le_refl _)⟩
    · split
      · have hA : Ij n f (m_pa M i 3 (M 6 i) 0 n) P := ⟨J_pa h.1 (by omega) (by decide) b6 (by decide) n (by omega), K_pa h.2 hn5 0 hi (by omega) hk (by omega) n (Nat.le_refl _)⟩
        split
        · exact hA
        · split
          · rename_i hf0
            have hfn := fst_n hf0
            exact ⟨J_post hA.1 (by omega) (Nat.lt_of_le_of_lt (Nat.mod_le _ _) (hA.1.1.1 6 i rfl)) (by decide) (hA.1.1.1 6 i rfl) (hA.1.1.1 7 i rfl), K_post hA.2 hn5 _ hi (Nat.mod_lt _ hn0) (fun z => hfn z.symm) (by omega) (hA.2.1 i hi).2.1 (by omega)⟩
          · exact hA
      · split
        · exact ⟨J_pa h.1 (by omega) (by decide) (by decide) b9 n (by omega), K_pa h.2 hn5 _ hi (by omega) (by omega) (by omega) n (Nat.le_refl _)⟩
        · exact h
theorem J_ent {M : MM} {i c x k a d v : Nat} (hJ : J M) (h16 : M 3 i < 16) (hc : c < 2147483648) (hx : x < 2147483648) (hk : k < 3) (ha : a < 8) (hd : d < 8) : J (m_ent M i c x k a d v) := by
  have e3 : m_ent M i c x k a d v 3 i = M 3 i + 1 := up2_self _ _ _ _
  obtain ⟨j1, j2, j3, j4⟩ := hJ
  refine ⟨⟨fun u y hu => ?_, ?_⟩, fun g hg => ?_, fun g z hg hz => ?_, fun l hl => ?_⟩
  · by_cases h3 : u = 3 ∧ y = i
    · rw [h3.1, h3.2, e3]; omega
    · rw [m_ent_o (fun z => by rw [z] at hu; cases hu) h3]; exact j1.1 u y hu
  · rw [m_ent_o (by decide) (by omega)]; exact j1.2
  · rw [m_ent_o (u := 4) (by decide) (by omega)]
    by_cases hgi : g = i
    · subst hgi; rw [e3]; have := j2 g hg; omega
    · rw [m_ent_o (by decide) (fun z => hgi z.2)]; exact j2 g hg
  · by_cases hgi : g = i
    · subst hgi
      rw [e3] at hz
      by_cases hzz : z = M 3 g
      · subst hzz
        obtain ⟨a1, a2, a3, a4, a5⟩ := m_ent_at (M := M) (i := g) (c := c) (x := x) (k := k) (a := a) (b := d) (v := v)
        rw [a1, a2, a3, a4, a5]; exact ⟨hc, hx, hk, ha, hd⟩
      · rw [m_ent_2 (by omega), m_ent_2 (by omega), m_ent_2 (by omega), m_ent_2 (by omega), m_ent_2 (by omega)]; exact j3 g z hg (by omega)
    · rw [m_ent_o (by decide) (fun w => hgi w.2)] at hz
      have := (j2 g hg).1
      rw [m_ent_2 (by omega), m_ent_2 (by omega), m_ent_2 (by omega), m_ent_2 (by omega), m_ent_2 (by omega)]; exact j3 g z hg hz
  · rw [m_ent_o (by decide) (by omega)] at hl
    rw [m_ent_o (by decide) (by omega)]; exact j4 l hl
theorem I_req2 {n f : Nat} {M : MM} {P : Nat → Nat} {i c x k a d v : Nat} (h : Ij n f M P) (hn5 : n ≤ 5) (hi : i < n) (hc : c < 2147483648) (hx : x < 2147483648) (hk : k < 3) (ha : a < 8) (hd : d < 8) : Ij n f (m_req2 n M i c x k a d v).2 P := by
  have hv := (h.2.1 i hi).2.1
  have h16 := (h.1.2.1 i (by omega)).1
  have b6 := h.1.1.1 6 i rfl
  unfold m_req2
  split
  · split
    · exact h
    · rename_i hf0
      split
      · exact h
      · split
        · exact h
        · exact ⟨J_pa (J_ent h.1 (by omega) hc hx hk ha hd) (by omega) (by decide) b6 (by decide) n (by omega), K_pa (K_same h.2 hn5 (fun x y hx => m_ent_o (by omega) (by omega))) hn5 0 hi (by omega) hv (fun _ => fst_y hf0) n (Nat.le_refl _)⟩
  · exact h
theorem I_request {n f : Nat} {M : MM} {P : Nat → Nat} (h : Ij n f M P) (hn0 : 0 < n) (hn5 : n ≤ 5) (nd cl nu ki ra rb va : Int32) : Ij n f (m_request n M nd cl nu ki ra rb va).2 P := by
  by_cases h1 : m_isNode n nd = 0
  · rw [req_no1 h1]; exact h
  · obtain ⟨i, hi, rfl⟩ := m_isNode_of hn0 (by omega) h1
    by_cases h2 : c_isE cl nu ki ra rb = 0
    · rw [req_no2 h1 h2]; exact h
    · obtain ⟨ci, x0, k0, a0, b0, e1, e2, e2', e4, e5, e6, rfl, rfl, rfl, rfl, rfl⟩ := isE_yes h2
      rw [← nI_tN va, req_yes hi (by omega) e1 e2 e2' e4 e5 e6 (tN_lt va)]
      exact I_req2 h hn5 hi (by omega) (by omega) (by omega) (by omega) (by omega)
theorem m_cz_at (M : MM) (i x y : Nat) : m_cz M i 5 x y = if (x = 10 ∨ x = 14) ∧ 5 * i ≤ y ∧ y < 5 * i + 5 then 0 else M x y := rfl
theorem I_crash {n f : Nat} {M : MM} {P : Nat → Nat} (h : Ij n f M P) (hn0 : 0 < n) (hn5 : n ≤ 5) (nd : Int32) : Ij n f (m_crash n M nd).2 (c_crP n M P nd) := by
  unfold m_crash c_crP
  split
  · exact h
  · rename_i hnd
    obtain ⟨i, hi, rfl⟩ := m_isNode_of hn0 (by omega) hnd
    rw [tN_nI (by omega)]
    split
    · exact h
    · have e4 : up2 (up2 (up2 (up2 (up2 M 5 i 3) 6 i 0) 7 i 0) 4 i 0) 3 i 0 = up2 (up2 (up2 (up2 (up2 M 5 i 3) 6 i 0) 7 i 0) 3 i 0) 4 i 0 := up2_comm _ _ _ (by decide)
      have hJ : J (m_cz (m_cr1 M i) i 5) := by
        rw [← cz_eq]
        refine J_kz (J_rz ?_ 14 i 5 (by decide)) i 5
        unfold m_cr1
        rw [← e4]
        exact J_fg (J_emp (J_sure (J_up (J_up (J_up h.1 5 i (by decide) (Or.inl (by decide))) 6 i (by decide) (Or.inl (by decide))) 7 i (by decide) (Or.inl (by decide))) i (Nat.zero_le _)) (up2_self _ _ _ _)) i
      show Ij n f (m_cz (m_cr1 M i) i 5) (va_up P i 0)
      refine ⟨hJ, ?_⟩
      obtain ⟨a1, a2, a3, a4, a5, a6, a7, a8, a9, a10, a11, a12⟩ := h.2.1 i hi
      have o : ∀ x y, x ≠ 3 → x ≠ 4 → x ≠ 5 → x ≠ 6 → x ≠ 7 → x ≠ 8 → x ≠ 10 → x ≠ 11 → x ≠ 12 → x ≠ 14 → m_cz (m_cr1 M i) i 5 x y = M x y := fun x y b3 b4 b5 b6 b7 b8 b10 b11 b12 b14 => by
        rw [m_cz_at, if_neg (by omega)]
        unfold m_cr1
        rw [m_fg_at, if_neg (by omega), if_neg (by omega), up2_ne _ _ (by omega), up2_ne _ _ (by omega), up2_ne _ _ (by omega), up2_ne _ _ (by omega), up2_ne _ _ (by omega)]
      have ob : ∀ x y, 5 ≤ x → x ≤ 9 → y ≠ i → m_cz (m_cr1 M i) i 5 x y = M x y := fun x y b1 b2 b3 => by
        rw [m_cz_at, if_neg (by omega)]
        unfold m_cr1
        rw [m_fg_at, if_neg (by omega), if_neg (by omega), up2_ne _ _ (by omega), up2_ne _ _ (by omega), up2_ne _ _ (by omega), up2_ne _ _ (by omega), up2_ne _ _ (by omega)]
      have orr : ∀ x y, x = 10 ∨ x = 11 ∨ x = 12 → (y < 5 * i ∨ 5 * i + 5 ≤ y) → m_cz (m_cr1 M i) i 5 x y = M x y := fun x y b1 b2 => by
        rw [m_cz_at, if_neg (by omega)]
        unfold m_cr1
        rw [m_fg_at, if_neg (by omega), if_neg (by omega), up2_ne _ _ (by omega), up2_ne _ _ (by omega), up2_ne _ _ (by omega), up2_ne _ _ (by omega), up2_ne _ _ (by omega)]
      have z : ∀ x y, x = 10 ∨ x = 11 ∨ x = 12 → 5 * i ≤ y → y < 5 * i + 5 → m_cz (m_cr1 M i) i 5 x y = 0 := fun x y b1 b2 b3 => by
        rw [m_cz_at]
        by_cases hx : x = 10
        · rw [if_pos (by omega)]
        · rw [if_neg (by omega)]
          unfold m_cr1
          rw [m_fg_at, if_neg (by omega), if_pos (by omega)]
      have e5 : m_cz (m_cr1 M i) i 5 5 i = 3 := by
        rw [m_cz_at, if_neg (by omega)]
        unfold m_cr1
        rw [m_fg_at, if_neg (by omega), if_neg (by omega), up2_ne _ _ (by omega), up2_ne _ _ (by omega), up2_ne _ _ (by omega), up2_ne _ _ (by omega), up2_self]
      have e6 : m_cz (m_cr1 M i) i 5 6 i = 0 := by
        rw [m_cz_at, if_neg (by omega)]
        unfold m_cr1
        rw [m_fg_at, if_neg (by omega), if_neg (by omega), up2_ne _ _ (by omega), up2_ne _ _ (by omega), up2_ne _ _ (by omega), up2_self]
      have e8 : m_cz (m_cr1 M i) i 5 8 i = 0 := by
        rw [m_cz_at, if_neg (by omega)]
        unfold m_cr1
        rw [m_fg_at, if_pos ⟨rfl, rfl⟩]
      refine K_node (i := i) h.2 hn5 ob (fun x y b1 b2 => ?_) (fun u hu => va_up_ne _ _ hu) (fun x y b1 => o x y (by omega) (by omega) (by omega) (by omega) (by omega) (by omega) (by omega) (by omega) (by omega) (by omega)) ?_
      · by_cases hx : x = 15
        · exact o x y (by omega) (by omega) (by omega) (by omega) (by omega) (by omega) (by omega) (by omega) (by omega) (by omega)
        · exact orr x y (by omega) b2
      · unfold Kn
        rw [e5, e6, e8, z 10 (5 * i + i) (by omega) (by omega) (by omega), z 12 (5 * i + i) (by omega) (by omega) (by omega), va_up_self]
        refine ⟨by omega, by omega, by omega, fun w => by omega, fun w => by omega, fun w => by omega, fun j hj => ?_, rfl, fun w => by omega, by omega, fun _ => rfl, fun w => by omega⟩
        rw [z 11 _ (by omega) (by omega) (by omega), o 15 _ (by decide) (by decide) (by decide) (by decide) (by decide) (by decide) (by decide) (by decide) (by decide) (by decide)]
        exact ⟨by omega, (a7 j hj).2⟩
theorem I_recover {n f : Nat} {M : MM} {P : Nat → Nat} (h : Ij n f M P) (hn0 : 0 < n) (hn5 : n ≤ 5) (nd nc : Int32) : Ij n f (m_recover n M nd nc).2 (c_rcP n M P nd nc) := by
  unfold m_recover c_rcP
  split
  · exact h
  · rename_i hnd
    obtain ⟨i, hi, rfl⟩ := m_isNode_of hn0 (by omega) hnd
    rw [tN_nI (by omega)]
    split
    · exact h
    · rename_i hnc
      obtain ⟨c0, -, hc0, rfl⟩ := m_in_of (by decide) (by decide) hnc
      rw [tN_nI (by omega)]
      split
      · rename_i h53
        have eq : m_rc1 M i c0 = m_rz (up2 (up2 M 5 i 2) 9 i c0) 14 i 5 := rfl
        have hJ : J (m_rc1 M i c0) := by
          rw [eq]
          exact J_rz (J_up (J_up h.1 5 i (by decide) (Or.inl (by decide))) 9 i (by decide) (Or.inl (by omega))) 14 i 5 (by decide)
        obtain ⟨a1, a2, a3, a4, a5, a6, a7, a8, a9, a10, a11, a12⟩ := h.2.1 i hi
        have o : ∀ x y, x ≠ 5 → x ≠ 9 → x ≠ 14 → m_rc1 M i c0 x y = M x y := fun x y b5 b9 b14 => by
          rw [eq, m_rz_o _ _ _ _ b14, up2_ne _ _ (fun z => b9 z.1), up2_ne _ _ (fun z => b5 z.1)]
        have e5 : m_rc1 M i c0 5 i = 2 := by rw [eq, m_rz_o _ _ _ _ (by decide), up2_ne _ _ (by omega), up2_self]
        have e9 : m_rc1 M i c0 9 i = c0 := by rw [eq, m_rz_o _ _ _ _ (by decide), up2_self]
        show Ij n f (m_pa (m_rc1 M i c0) i 6 0 c0 n) (va_up P i c0)
        refine ⟨J_pa hJ (by omega) (by decide) (by decide) (by omega) n (by omega), K_pa (K_node (i := i) (P' := va_up P i c0) h.2 hn5 (fun x y b1 b2 b3 => ?_) (fun x y b1 b2 => o x y (by omega) (by omega) (by omega)) (fun u hu => va_up_ne _ _ hu) (fun x y b1 => o x y (by omega) (by omega) (by omega)) ?_) hn5 _ hi (by omega) (by omega) (by omega) n (Nat.le_refl _)⟩
        · rw [eq, m_rz_o _ _ _ _ (by omega), up2_ne _ _ (fun z => b3 z.2), up2_ne _ _ (fun z => b3 z.2)]
        · unfold Kn
          rw [e5, e9, o 6 _ (by decide) (by decide) (by decide), o 8 _ (by decide) (by decide) (by decide), o 10 _ (by decide) (by decide) (by decide), va_up_self]
          refine ⟨by omega, a2, a3, fun w => by omega, fun w => by omega, fun w => by omega, fun j hj => ?_, a8, fun _ => rfl, hc0, fun _ => a11 (by omega), fun w => by omega⟩
          rw [o 11 _ (by decide) (by decide) (by decide), o 15 _ (by decide) (by decide) (by decide)]
          exact a7 j hj
      · exact h
