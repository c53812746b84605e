/-! the face: nodes asked for, entries, lines, counts -/
theorem isNode_yes {n j : Nat} (h : j < n) (hn : n < 2147483648) : m_isNode n (nI j) = 1 := m_in_yes (Nat.zero_le _) (by omega) (by omega)
theorem isNode_y {n j : Nat} (h : j < n) (hn : n < 2147483648) : ¬ m_isNode n (nI j) = 0 := by rw [isNode_yes h hn]; decide
theorem isNode_no {n : Nat} {x : Int32} (hn : 0 < n) (hn2 : n < 2147483648) (h : x < 0 ∨ nI n ≤ x) : m_isNode n x = 0 := by
  apply Classical.byContradiction
  intro hc
  obtain ⟨j, hj, rfl⟩ := m_isNode_of hn hn2 hc
  rcases h with h | h
  · exact nI_pos (by omega) h
  · exact nI_ge hj (by omega) h
theorem in_lo {x hi : Int32} (h : x < 0) : m_in x (nI 0) hi = 0 := by
  unfold m_in
  exact if_pos h
theorem in_hi {x : Int32} {e0 : Nat} (h1 : 1 ≤ e0) (h2 : e0 < 2147483648) (h : nI e0 ≤ x) : m_in x (nI 0) (nI (e0 - 1)) = 0 := by
  apply Classical.byContradiction
  intro hc
  obtain ⟨j, -, hj, rfl⟩ := m_in_of (by decide) (by omega) hc
  exact nI_ge (show j < e0 by omega) (by omega) h
theorem in_ok {x : Int32} {e0 : Nat} (h2 : e0 < 2147483648) (h : ¬ x < 0) (h1 : ¬ nI e0 ≤ x) : m_in x (nI 0) (nI (e0 - 1)) = 1 := by
  obtain ⟨j, hj, rfl⟩ := nI_of h
  have : j < e0 := Nat.lt_of_not_le fun z => h1 (nI_le z (by omega))
  exact m_in_yes (Nat.zero_le _) (by omega) (by omega)
def c_isE (cl nu ki ra rb : Int32) : Nat :=
  if m_in cl (nI 0) (nI 3) = 0 then 0 else if nu < nI 1 then 0 else if nI 1000000 < nu then 0 else if m_in ki (nI 0) (nI 2) = 0 then 0 else if m_in ra (nI 0) (nI 7) = 0 then 0 else if m_in rb (nI 0) (nI 7) = 0 then 0 else 1
theorem c_isE_le (cl nu ki ra rb : Int32) : c_isE cl nu ki ra rb ≤ 1 := by
  unfold c_isE
  repeat' split
  all_goals decide
theorem req_no1 {n : Nat} {M : MM} {nd cl nu ki ra rb va : Int32} (h : m_isNode n nd = 0) : m_request n M nd cl nu ki ra rb va = (-2, M) := by rw [m_request, if_pos h]
theorem req_no2 {n : Nat} {M : MM} {nd cl nu ki ra rb va : Int32} (hn : ¬ m_isNode n nd = 0) (h : c_isE cl nu ki ra rb = 0) : m_request n M nd cl nu ki ra rb va = (-2, M) := by
  rw [m_request, if_neg hn]
  unfold c_isE at h
  by_cases h1 : m_in cl (nI 0) (nI 3) = 0
  · rw [if_pos h1]
  · rw [if_neg h1] at h ⊢
    by_cases h2 : nu < nI 1
    · rw [if_pos (show m_in nu (nI 1) (nI 1000000) = 0 from if_pos h2)]
    · rw [if_neg h2] at h
      by_cases h3 : nI 1000000 < nu
      · rw [if_pos (show m_in nu (nI 1) (nI 1000000) = 0 by rw [m_in, if_neg h2, if_pos h3])]
      · rw [if_neg h3] at h
        rw [if_neg (show ¬ m_in nu (nI 1) (nI 1000000) = 0 by rw [m_in, if_neg h2, if_neg h3]; decide)]
        by_cases h4 : m_in ki (nI 0) (nI 2) = 0
        · rw [if_pos h4]
        · rw [if_neg h4] at h ⊢
          by_cases h5 : m_in ra (nI 0) (nI 7) = 0
          · rw [if_pos h5]
          · rw [if_neg h5] at h ⊢
            by_cases h6 : m_in rb (nI 0) (nI 7) = 0
            · rw [if_pos h6]
            · rw [if_neg h6] at h; cases h
theorem isE_yes {cl nu ki ra rb : Int32} (h : c_isE cl nu ki ra rb ≠ 0) : ∃ ci x0 k0 a0 b0 : Nat, ci ≤ 3 ∧ 1 ≤ x0 ∧ x0 ≤ 1000000 ∧ k0 ≤ 2 ∧ a0 ≤ 7 ∧ b0 ≤ 7 ∧ cl = nI ci ∧ nu = nI x0 ∧ ki = nI k0 ∧ ra = nI a0 ∧ rb = nI b0 := by
  unfold c_isE at h
  by_cases h1 : m_in cl (nI 0) (nI 3) = 0
  · rw [if_pos h1] at h; exact absurd rfl h
  rw [if_neg h1] at h
  by_cases h2 : nu < nI 1
  · rw [if_pos h2] at h; exact absurd rfl h
  rw [if_neg h2] at h
  by_cases h3 : nI 1000000 < nu
  · rw [if_pos h3] at h; exact absurd rfl h
  rw [if_neg h3] at h
  by_cases h4 : m_in ki (nI 0) (nI 2) = 0
  · rw [if_pos h4] at h; exact absurd rfl h
  rw [if_neg h4] at h
  by_cases h5 : m_in ra (nI 0) (nI 7) = 0
  · rw [if_pos h5] at h; exact absurd rfl h
  rw [if_neg h5] at h
  by_cases h6 : m_in rb (nI 0) (nI 7) = 0
  · rw [if_pos h6] at h; exact absurd rfl h
  obtain ⟨ci, -, e1, r1⟩ := m_in_of (by decide) (by decide) h1
  obtain ⟨x0, e2, e2', r2⟩ := m_in_of (v := nu) (lo := 1) (hi := 1000000) (by decide) (by decide) (by rw [m_in, if_neg h2, if_neg h3]; decide)
  obtain ⟨k0, -, e4, r4⟩ := m_in_of (by decide) (by decide) h4
  obtain ⟨a0, -, e5, r5⟩ := m_in_of (by decide) (by decide) h5
  obtain ⟨b0, -, e6, r6⟩ := m_in_of (by decide) (by decide) h6
  exact ⟨ci, x0, k0, a0, b0, e1, e2, e2', e4, e5, e6, r1, r2, r4, r5, r6⟩
theorem req_yes {n : Nat} {M : MM} {i ci x0 k0 a0 b0 v0 : Nat} (hi : i < n) (hn : n < 1000) (h1 : ci ≤ 3) (h2 : 1 ≤ x0) (h2' : x0 ≤ 1000000) (h3 : k0 ≤ 2) (h4 : a0 ≤ 7) (h5 : b0 ≤ 7) (hv : v0 < 4294967296) : m_request n M (nI i) (nI ci) (nI x0) (nI k0) (nI a0) (nI b0) (nI v0) = m_req2 n M i ci x0 k0 a0 b0 v0 := by
  rw [m_request, if_neg (isNode_y hi (by omega)), if_neg (by rw [m_in_yes (Nat.zero_le _) h1 (by decide)]; decide), if_neg (by rw [m_in_yes h2 h2' (by decide)]; decide), if_neg (by rw [m_in_yes (Nat.zero_le _) h3 (by decide)]; decide), if_neg (by rw [m_in_yes (Nat.zero_le _) h4 (by decide)]; decide), if_neg (by rw [m_in_yes (Nat.zero_le _) h5 (by decide)]; decide), tN_nI (by omega), tN_nI (by omega), tN_nI (by omega), tN_nI (by omega), tN_nI (by omega), tN_nI (by omega), tN_nI hv]
theorem leads_y {n : Nat} {M : MM} {i : Nat} (h : c_leads n M i ≠ 0) : M 5 i = 0 ∧ ¬ m_fst n M i = 0 := by
  unfold c_leads at h
  by_cases h5 : M 5 i = 0
  · rw [if_pos h5] at h
    exact ⟨h5, fun z => h (if_pos z)⟩
  · rw [if_neg h5] at h; exact absurd rfl h
theorem req2_no {n : Nat} {M : MM} {i c x k a b v : Nat} (h : c_leads n M i = 0) : m_req2 n M i c x k a b v = (-3, M) := by
  unfold c_leads at h
  unfold m_req2
  by_cases h5 : M 5 i = 0
  · rw [if_pos h5] at h ⊢
    by_cases h6 : m_fst n M i = 0
    · rw [if_pos h6]
    · rw [if_neg h6] at h; cases h
  · rw [if_neg h5]
theorem req2_y {n : Nat} {M : MM} {i c x k a b v : Nat} (h : c_leads n M i ≠ 0) : m_req2 n M i c x k a b v = (if m_new M i c x (M 3 i) = 0 then (nI 0, M) else if M 3 i = 16 then (-4, M) else (nI (m_pa (m_ent M i c x k a b v) i 1 (M 6 i) 0 n 3 i), m_pa (m_ent M i c x k a b v) i 1 (M 6 i) 0 n)) := by
  rw [m_req2, if_pos (leads_y h).1, if_neg (leads_y h).2]
theorem ans_y {M : MM} {i c x : Nat} (h : c_ans M i c x ≠ 0) : m_new M i c x (M 3 i) = 0 := Classical.byContradiction fun z => h (if_neg z)
theorem ans_n {M : MM} {i c x : Nat} (h : c_ans M i c x = 0) : ¬ m_new M i c x (M 3 i) = 0 := fun z => by rw [c_ans, if_pos z] at h; cases h
/-- an entry more -/
theorem m_ent_o {M : MM} {i c x k a b v : Nat} {u y : Nat} (h : u ≠ 2) (h2 : ¬ (u = 3 ∧ y = i)) : m_ent M i c x k a b v u y = M u y := by
  unfold m_ent
  rw [up2_ne _ _ h2, up2_ne _ _ (by omega), up2_ne _ _ (by omega), up2_ne _ _ (by omega), up2_ne _ _ (by omega), up2_ne _ _ (by omega), up2_ne _ _ (by omega)]
theorem m_ent_2 {M : MM} {i c x k a b v : Nat} {y : Nat} (h : y < 96 * i + 6 * M 3 i ∨ 96 * i + 6 * M 3 i + 6 ≤ y) : m_ent M i c x k a b v 2 y = M 2 y := by
  unfold m_ent
  rw [up2_ne _ _ (by omega), up2_ne _ _ (by omega), up2_ne _ _ (by omega), up2_ne _ _ (by omega), up2_ne _ _ (by omega), up2_ne _ _ (by omega), up2_ne _ _ (by omega)]
theorem m_ent_at {M : MM} {i c x k a b v : Nat} : m_ent M i c x k a b v 2 (96 * i + 6 * M 3 i) = c ∧ m_ent M i c x k a b v 2 (96 * i + 6 * M 3 i + 1) = x ∧ m_ent M i c x k a b v 2 (96 * i + 6 * M 3 i + 2) = k ∧ m_ent M i c x k a b v 2 (96 * i + 6 * M 3 i + 3) = a ∧ m_ent M i c x k a b v 2 (96 * i + 6 * M 3 i + 4) = b := by
  refine ⟨?_, ?_, ?_, ?_, ?_⟩ <;> simp [m_ent, up2]
theorem c_ent {b n f i q : Nat} {X : Mem} {M : MM} {c x k a d v : Nat} (P : Nat → Nat) (hs : Sd b n f X M) (hJ : J M) (hi : i < n) (h16 : M 3 i < 16) (hc : c < 2147483648) (hx : x < 2147483648) (hk : k < 3) (ha : a < 8) (hd : d < 8) (hlg : LogAt b n X q (m_ent M i c x k a d v) i) : cM b n (wR X (na b i) 12 (some q)) M P = cM b n (wR X (na b i) 12 (some q)) (m_ent M i c x k a d v) P ∧ Sd b n f (wR X (na b i) 12 (some q)) (m_ent M i c x k a d v) ∧ go b n X (wR X (na b i) 12 (some q)) ∧ J (m_ent M i c x k a d v) := by
  have hn5 : n ≤ 5 := by have := g_nf hs; omega
  have e3 : m_ent M i c x k a d v 3 i = M 3 i + 1 := up2_self _ _ _ _
  obtain ⟨h1, h2⟩ := Sd_lg hs hJ.2.1 hJ.1.2 hi hlg (fun u hu => ⟨m_ent_o (by decide) (fun z => hu z.2), fun j hj => m_ent_2 (by omega)⟩) (fun y _ => m_ent_o (by decide) (by omega)) (fun x y hx => m_ent_o (by omega) (by omega))
  refine ⟨cM_hid hn5 _ P (fun u _ => m_ent_o (by decide) (by omega)) (fun x y hx => m_ent_o (by omega) (by omega)), h1, h2, ?_⟩
  obtain ⟨j1, j2, j3, j4⟩ := hJ
  refine ⟨⟨fun u y hu => ?_, ?_⟩, fun g hg => ?_, fun g z hg hz => ?_, fun l hl => ?_⟩
  · by_cases h3 : u = 3 ∧ y = i
    · rw [h3.1, h3.2, e3]; omega
    · rw [m_ent_o (fun z => by rw [z] at hu; cases hu) h3]; exact j1.1 u y hu
  · rw [m_ent_o (by decide) (by omega)]; exact j1.2
  · rw [m_ent_o (u := 4) (by decide) (by omega)]
    by_cases hgi : g = i
    · subst hgi; rw [e3]; have := j2 g hg; omega
    · rw [m_ent_o (by decide) (fun z => hgi z.2)]; exact j2 g hg
  · by_cases hgi : g = i
    · subst hgi
      rw [e3] at hz
      by_cases hzz : z = M 3 g
      · subst hzz
        obtain ⟨a1, a2, a3, a4, a5⟩ := m_ent_at (M := M) (i := g) (c := c) (x := x) (k := k) (a := a) (b := d) (v := v)
        rw [a1, a2, a3, a4, a5]; exact ⟨hc, hx, hk, ha, hd⟩
      · rw [m_ent_2 (by omega), m_ent_2 (by omega), m_ent_2 (by omega), m_ent_2 (by omega), m_ent_2 (by omega)]; exact j3 g z hg (by omega)
    · rw [m_ent_o (by decide) (fun w => hgi w.2)] at hz
      have := (j2 g hg).1
      rw [m_ent_2 (by omega), m_ent_2 (by omega), m_ent_2 (by omega), m_ent_2 (by omega), m_ent_2 (by omega)]; exact j3 g z hg hz
  · rw [m_ent_o (by decide) (by omega)] at hl
    rw [m_ent_o (by decide) (by omega)]; exact j4 l hl
/-- letters asked for -/
theorem there_y {M : MM} {j : Nat} (h17 : M 17 0 ≤ 240) (hj : j < M 17 0) (h24 : M 24 j = 0) : ¬ m_there M (nI j) = 0 := by
  rw [m_there, m_inL_yes h17 hj, if_neg (by decide), tN_nI (by omega), if_pos h24]; decide
theorem J_drop {M : MM} (h : J M) {l v : Nat} (hl : l < M 17 0) (hv : v < 2147483648) : J (up2 M 24 l v) := by
  obtain ⟨h1, h2, h3, h4⟩ := h
  have o : ∀ x z, x ≠ 24 → up2 M 24 l v x z = M x z := fun x z hx => up2_ne _ _ (fun w => hx w.1)
  refine J_same ⟨h1, h2, h3, h4⟩ (bM_up h1 24 l hv) (fun u => ⟨o 3 u (by decide), o 4 u (by decide), fun z _ => o 2 _ (by decide)⟩) (fun y hy => ?_)
  rw [o 17 0 (by decide)] at hy
  rw [up2_ne _ _ (by omega)]; exact h4 y hy
theorem cM_24 {b n : Nat} (hn : n ≤ 5) (X : Mem) (M : MM) (P : Nat → Nat) (i v : Nat) : cM b n X M P = cM b n X (up2 M 24 i v) P :=
  cM_hid hn X P (fun u _ => up2_ne _ _ (by omega)) (fun x y hx => up2_ne _ _ (by omega))
/-- lines -/
theorem les_gre {i j : Nat} (h : i ≠ j) : m_les i j < m_gre i j ∧ ((m_les i j = i ∧ m_gre i j = j) ∨ (m_les i j = j ∧ m_gre i j = i)) := by
  unfold m_les m_gre
  by_cases h1 : i < j
  · rw [if_pos h1, if_neg (by omega)]; exact ⟨h1, Or.inl ⟨rfl, rfl⟩⟩
  · rw [if_neg h1, if_pos (by omega)]; exact ⟨by omega, Or.inr ⟨rfl, rfl⟩⟩
theorem line_lt {n i j : Nat} (hi : i < n) (hj : j < n) : m_les i j * n + m_gre i j < n * n := by
  have h1 : m_les i j + 1 ≤ n := by unfold m_les; split <;> omega
  have h2 : m_gre i j < n := by unfold m_gre; split <;> omega
  have := Nat.mul_le_mul_right n h1
  rw [Nat.succ_mul] at this
  omega
theorem nn_lt {n f : Nat} (h : (n = 3 ∧ f = 1) ∨ (n = 5 ∧ f = 2)) : n * n < 2 ^ 31 ∧ n * n < 2147483648 := by
  rcases h with ⟨rfl, -⟩ | ⟨rfl, -⟩ <;> decide
theorem cut_at {b n f i j : Nat} {X : Mem} {M : MM} (P : Nat → Nat) (hs : Sd b n f X M) (hi : i < n) (hj : j < n) (hij : i ≠ j) : iv (cM b n X M P) (b + 6 + 5 * n) (m_les i j * n + m_gre i j) = M 16 (5 * i + j) := by
  obtain ⟨h1, h2⟩ := les_gre hij
  rcases h2 with ⟨e1, e2⟩ | ⟨e1, e2⟩
  · rw [e1, e2] at h1 ⊢; exact cM_c h1 hj X M P
  · rw [e1, e2] at h1 ⊢
    rw [cM_c h1 hi X M P]
    exact (hs.2.2.2.2.2.2.1 j i hj hi).1
theorem cM_cut {b n i j : Nat} (hi : i < n) (hj : j < n) (hij : i ≠ j) (hn : n ≤ 5) (X : Mem) (M : MM) (P : Nat → Nat) (on : Nat) : wI (cM b n X M P) (b + 6 + 5 * n) (m_les i j * n + m_gre i j) on = cM b n X (up2 (up2 M 16 (5 * i + j) on) 16 (5 * j + i) on) P := by
  obtain ⟨h1, h2⟩ := les_gre hij
  have hg : m_gre i j < n := by unfold m_gre; split <;> omega
  have ev : ∀ base q, vm (up2 (up2 M 16 (5 * i + j) on) 16 (5 * j + i) on) base q = vm M base q := fun base q => vm_c q (fun y _ => by rw [up2_ne _ _ (by omega), up2_ne _ _ (by omega)])
  refine cM_set (fun a q => ?_)
  rcases cV_cases b n a with rfl | rfl | ⟨i', r, hi', hr, rfl⟩ | ⟨g1, g2⟩
  · rw [if_neg (by omega), cV_pool, cV_pool, up2_ne _ _ (by omega), up2_ne _ _ (by omega), up2_ne _ _ (by omega), up2_ne _ _ (by omega)]
  · rw [cV_cut, cV_cut]
    have h0 : 0 < n := by omega
    have e1 : (m_les i j * n + m_gre i j) / n = m_les i j := by rw [Nat.mul_comm, Nat.mul_add_div h0, Nat.div_eq_of_lt hg]; rfl
    have e2 : (m_les i j * n + m_gre i j) % n = m_gre i j := by rw [Nat.mul_comm, Nat.mul_add_mod, Nat.mod_eq_of_lt hg]
    by_cases hq : q = m_les i j * n + m_gre i j
    · subst hq
      rw [if_pos ⟨rfl, rfl⟩, e1, e2, if_pos ⟨line_lt hi hj, h1⟩]
      rcases h2 with ⟨d1, d2⟩ | ⟨d1, d2⟩
      · rw [d1, d2, up2_ne _ _ (by omega), up2_self]
      · rw [d1, d2, up2_self]
    · rw [if_neg (fun z => hq z.2)]
      by_cases hc : q < n * n ∧ q / n < q % n
      · rw [if_pos hc, if_pos hc]
        have hm : q % n < n := Nat.mod_lt _ h0
        have hdm := Nat.div_add_mod q n
        have hne : ¬ (q / n = m_les i j ∧ q % n = m_gre i j) := fun z => hq (by rw [← z.1, ← z.2, Nat.mul_comm]; exact hdm.symm)
        have hlt := hc.2
        generalize q / n = x at *
        generalize q % n = y at *
        rw [up2_ne _ _ (by rcases h2 with ⟨d1, d2⟩ | ⟨d1, d2⟩ <;> omega), up2_ne _ _ (by rcases h2 with ⟨d1, d2⟩ | ⟨d1, d2⟩ <;> omega)]
      · rw [if_neg hc, if_neg hc]
  · rw [if_neg (by omega), cV_node hi' hr, cV_node hi' hr, up2_ne _ _ (by omega), up2_ne _ _ (by omega)]
    simp only [cN, ev, up2_ne _ _ (show ¬ (5 = 16 ∧ i' = 5 * j + i) by omega), up2_ne _ _ (show ¬ (5 = 16 ∧ i' = 5 * i + j) by omega), up2_ne _ _ (show ¬ (6 = 16 ∧ i' = 5 * j + i) by omega), up2_ne _ _ (show ¬ (6 = 16 ∧ i' = 5 * i + j) by omega), up2_ne _ _ (show ¬ (4 = 16 ∧ i' = 5 * j + i) by omega), up2_ne _ _ (show ¬ (4 = 16 ∧ i' = 5 * i + j) by omega), up2_ne _ _ (show ¬ (7 = 16 ∧ i' = 5 * j + i) by omega), up2_ne _ _ (show ¬ (7 = 16 ∧ i' = 5 * i + j) by omega), up2_ne _ _ (show ¬ (8 = 16 ∧ i' = 5 * j + i) by omega), up2_ne _ _ (show ¬ (8 = 16 ∧ i' = 5 * i + j) by omega)]
  · rw [if_neg (by omega), cV_out g1 g2, cV_out g1 g2]
theorem Sd_cut {b n f i j on : Nat} {X : Mem} {M : MM} (h : Sd b n f X M) (hn : n ≤ 5) (hi : i < n) (hj : j < n) : Sd b n f X (up2 (up2 M 16 (5 * i + j) on) 16 (5 * j + i) on) := by
  have o : ∀ x y, x ≠ 16 → up2 (up2 M 16 (5 * i + j) on) 16 (5 * j + i) on x y = M x y := fun x y hx => by
    rw [up2_ne _ _ (fun z => hx z.1), up2_ne _ _ (fun z => hx z.1)]
  obtain ⟨h1, ⟨p1, p2⟩, h3, h4, h5, h6, h7, h8, h9⟩ := h
  have e17 := o 17 0 (by decide)
  refine ⟨h1, ⟨fun l l' hl hl' => p1 l l' (by omega) (by omega), fun l hl => p2 l (by omega)⟩, fun l hl => ?_, fun u hu => ?_, fun u w hu hw => ?_, fun u w hu hw => ?_, fun u w hu hw => ⟨?_, (h7 u w hu hw).2⟩, h8, h9⟩
  · obtain ⟨q, q1, q2⟩ := h3 l (by omega)
    exact ⟨q, q1, q2.to (fun x _ _ => o x l (by omega)) (o 4 _ (by decide)) (o 3 _ (by decide)) (fun k _ => o 2 _ (by decide))⟩
  · obtain ⟨lg, q1, q2⟩ := h4 u hu
    exact ⟨lg, q1, q2.to (o 3 _ (by decide)) (fun k _ => o 2 _ (by decide))⟩
  · exact (h5 u w hu hw).to (o 12 _ (by decide)) (o 13 _ (by decide)) (o 4 _ (by decide)) (o 3 _ (by decide)) (fun k _ => o 2 _ (by decide))
  · exact (h6 u w hu hw).to (o 14 _ (by decide)) (o 15 _ (by decide)) (o 4 _ (by decide)) (o 3 _ (by decide)) (fun k _ => o 2 _ (by decide))
  · have hsy := (h7 u w hu hw).1
    unfold up2
    by_cases a1 : u = j ∧ w = i
    · rw [if_pos (by omega)]
      by_cases a2 : 5 * w + u = 5 * j + i
      · rw [if_pos ⟨rfl, a2⟩]
      · rw [if_neg (fun z => a2 z.2), if_pos (by omega)]
    · rw [if_neg (show ¬ (16 = 16 ∧ 5 * u + w = 5 * j + i) by omega)]
      by_cases a2 : u = i ∧ w = j
      · rw [if_pos (by omega), if_pos (by omega)]
      · rw [if_neg (show ¬ (16 = 16 ∧ 5 * u + w = 5 * i + j) by omega), if_neg (show ¬ (16 = 16 ∧ 5 * w + u = 5 * j + i) by omega), if_neg (show ¬ (16 = 16 ∧ 5 * w + u = 5 * i + j) by omega)]
        exact hsy
def cu (M : MM) (n p : Nat) : Nat := if p / n < p % n then M 16 (5 * (p / n) + p % n) else 0
theorem cut_rd {b n f p : Nat} {X : Mem} {M : MM} (P : Nat → Nat) (hs : Sd b n f X M) (hp : p < n * n) : iv (cM b n X M P) (b + 6 + 5 * n) p = cu M n p := by
  have h0 : 0 < n := Nat.pos_of_ne_zero (fun z => by rw [z] at hp; omega)
  rw [cM_iv, cV_cut]
  unfold cu
  by_cases h : p / n < p % n
  · rw [if_pos ⟨hp, h⟩, if_pos h]
  · rw [if_neg (fun z => h z.2), if_neg h]
    have e := (hs.2.2.2.2.2.2.1 (p / n) (p % n) (Nat.div_lt_of_lt_mul hp) (Nat.mod_lt _ h0)).2 (by omega)
    rw [show p / n * n + p % n = p by rw [Nat.mul_comm]; exact Nat.div_add_mod p n] at e
    exact e
theorem cu_lt {M : MM} (h : bM M) (n p : Nat) : cu M n p < 2147483648 := by
  unfold cu; split
  · exact h.1 16 _ rfl
  · decide
def c_cu (M : MM) (n : Nat) : Nat → Nat
  | 0 => 0
  | p + 1 => c_cu M n p + (if cu M n p = 0 then 0 else 1)
theorem c_cu_le (M : MM) (n : Nat) : ∀ p, c_cu M n p ≤ p := by
  intro p
  induction p with
  | zero => exact Nat.le_refl _
  | succ p ih => simp only [c_cu]; split <;> omega
theorem c_cu_row (M : MM) {n i : Nat} (hi : i < n) : ∀ j, j ≤ n → c_cu M n (n * i + j) = c_cu M n (n * i) + m_cr M i j := by
  intro j
  induction j with
  | zero => intro _; rfl
  | succ j ih =>
    intro hj
    have h0 : 0 < n := by omega
    have e1 : (n * i + j) / n = i := by rw [Nat.mul_add_div h0, Nat.div_eq_of_lt (by omega)]; rfl
    have e2 : (n * i + j) % n = j := by rw [Nat.mul_add_mod, Nat.mod_eq_of_lt (by omega)]
    show c_cu M n (n * i + j) + (if cu M n (n * i + j) = 0 then 0 else 1) = c_cu M n (n * i) + (m_cr M i j + (if j ≤ i then 0 else if M 16 (5 * i + j) = 0 then 0 else 1))
    rw [ih (by omega)]
    unfold cu
    rw [e1, e2]
    by_cases hij : j ≤ i
    · rw [if_neg (show ¬ i < j by omega), if_pos hij, if_pos rfl]; omega
    · rw [if_pos (show i < j by omega), if_neg hij]; omega
theorem c_cu_all (M : MM) {n : Nat} : ∀ i, i ≤ n → c_cu M n (n * i) = m_ct n M i := by
  intro i
  induction i with
  | zero => intro _; rfl
  | succ i ih =>
    intro hi
    rw [Nat.mul_succ, c_cu_row M (by omega) n (Nat.le_refl _), ih (by omega)]; rfl
/-- an entry asked for -/
theorem c_fld_eq {n : Nat} {M : MM} {i : Nat} (hi : i < n) (hn : n < 1000) (h16 : M 3 i ≤ 16) (x w : Int32) : c_fld M i x w = m_entry n M (nI i) x w := by
  unfold m_entry
  rw [if_neg (isNode_y hi (by omega)), tN_nI (by omega)]
  unfold c_fld
  by_cases h1 : x < nI 1
  · rw [if_pos h1, if_pos (show m_in x (nI 1) (nI (M 3 i)) = 0 from if_pos h1)]
  · rw [if_neg h1]
    by_cases h2 : nI (M 3 i) < x
    · rw [if_pos h2, if_pos (show m_in x (nI 1) (nI (M 3 i)) = 0 by rw [m_in, if_neg h1, if_pos h2])]
    · rw [if_neg h2, if_neg (show ¬ m_in x (nI 1) (nI (M 3 i)) = 0 by rw [m_in, if_neg h1, if_neg h2]; decide)]
      obtain ⟨j, hj1, hj2, rfl⟩ := nI_ex (by decide) h1
      have hj : j ≤ M 3 i := Nat.le_of_not_lt fun z => h2 ((nI_ltI (by omega) hj2).mpr z)
      by_cases h3 : w < 0
      · rw [if_pos h3, if_pos (in_lo h3)]
      · rw [if_neg h3]
        obtain ⟨q, hq, rfl⟩ := nI_of h3
        by_cases h4 : nI q < nI 6
        · have hq6 := (nI_ltI hq (by decide)).mp h4
          rw [if_pos h4, if_neg (by rw [m_in_yes (Nat.zero_le _) (show q ≤ 5 by omega) (by decide)]; decide), tN_nI (by omega), tN_nI (by omega), show 96 * i + ((j - 1) * 6 + q) = 96 * i + 6 * j - 6 + q by omega]
        · rw [if_neg h4, if_pos ?_]
          have : 6 ≤ q := Nat.le_of_not_lt fun z => h4 (nI_lt z (by decide))
          exact in_hi (e0 := 6) (by decide) (by decide) (nI_le this hq)
theorem sm_U0 {M : MM} {i j : Nat} (h : c_sm M i j (6 * m_les (M 4 i) (M 4 j)) = 0) : m_U M i j = true := by
  unfold m_U
  unfold c_sm at h
  by_cases h1 : m_sm M i j (6 * m_les (M 4 i) (M 4 j)) = true
  · rw [if_pos h1] at h; cases h
  · rw [Bool.eq_false_iff.mpr h1]; rfl
theorem sm_U1 {M : MM} {i j : Nat} (h : c_sm M i j (6 * m_les (M 4 i) (M 4 j)) ≠ 0) : ¬ m_U M i j = true := by
  unfold m_U
  unfold c_sm at h
  by_cases h1 : m_sm M i j (6 * m_les (M 4 i) (M 4 j)) = true
  · rw [h1]; decide
  · rw [if_neg h1] at h; exact absurd rfl h
/-- what crashes and recoveries leave of the class's nonces -/
def c_crP (n : Nat) (M : MM) (P : Nat → Nat) (nd : Int32) : Nat → Nat := if m_isNode n nd = 0 then P else if M 5 (tN nd) = 3 then P else va_up P (tN nd) 0
def c_rcP (n : Nat) (M : MM) (P : Nat → Nat) (nd nc : Int32) : Nat → Nat := if m_isNode n nd = 0 then P else if m_in nc (nI 0) (nI 1000000) = 0 then P else if M 5 (tN nd) = 3 then va_up P (tN nd) (tN nc) else P
/-- 31 h + .., counted up -/
def hg (F : Nat → Int32) (k : Nat) (h : Int64) : Int64 := hs F k h
theorem hg_0 (F : Nat → Int32) (h : Int64) : hg F 0 h = h := rfl
theorem hg_s (F : Nat → Int32) (k : Nat) (h : Int64) : hg F (k + 1) h = 31 * hg F k h + (F k).toInt64 := rfl
theorem hg_c {F G : Nat → Int32} (h : Int64) : ∀ k, (∀ j, j < k → F j = G j) → hg F k h = hg G k h := by
  intro k
  induction k with
  | zero => intro _; rfl
  | succ k ih => intro e; rw [hg_s, hg_s, ih (fun j hj => e j (by omega)), e k (by omega)]
theorem dgn_eq (n : Nat) (M : MM) (i : Nat) (h : Int64) : m_dgn n M i h = hg (fun r => m_register n M (nI i) (nI r)) 8 (hg (fun k => nI (M 2 (96 * i + k))) (6 * M 3 i) (hg (fun w => m_node n M (nI i) (nI w)) 9 h)) := rfl
theorem dg2_s (n : Nat) (M : MM) (l : Nat) : m_dg2 n M (l + 1) = hg (fun w => m_letter M (nI l) (nI w)) 8 (m_dg2 n M l) := rfl
theorem reg_in {n : Nat} {M : MM} {i x : Nat} (hi : i < n) (hn : n < 1000) (hx : x < 8) : m_register n M (nI i) (nI x) = rg (m_E M i) (M 4 i) x := by
  rw [m_register, if_neg (isNode_y hi (by omega)), if_neg (by rw [m_in_yes (Nat.zero_le _) (show x ≤ 7 by omega) (by decide)]; decide), tN_nI (by omega), tN_nI (by omega)]
theorem nd_in {n : Nat} {M : MM} {i : Nat} (hi : i < n) (hn : n < 1000) (w : Int32) : m_node n M (nI i) w = m_nd n M i w := by
  rw [m_node, if_neg (isNode_y hi (by omega)), tN_nI (by omega)]
theorem tN_lt (x : Int32) : tN x < 4294967296 := x.toUInt32.toNat_lt
