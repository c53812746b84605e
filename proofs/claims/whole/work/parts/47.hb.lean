/-! what F others have: counted by the class, searched by the reference -/
def c_ct (M : MM) (i x : Nat) : Nat → Nat
  | 0 => 0
  | j + 1 => c_ct M i x j + (if M 10 (5 * i + j) < x then 0 else 1)
def c_hb (n f : Nat) (M : MM) (i : Nat) : Nat → Nat
  | 0 => 0
  | j + 1 => if M 10 (5 * i + j) ≤ c_hb n f M i j then c_hb n f M i j else if c_ct M i (M 10 (5 * i + j)) n < f then c_hb n f M i j else M 10 (5 * i + j)
theorem c_ct_le (M : MM) (i x : Nat) : ∀ j, c_ct M i x j ≤ j := by
  intro j
  induction j with
  | zero => exact Nat.le_refl _
  | succ j ih => simp only [c_ct]; split <;> omega
theorem c_hb_lt {n f : Nat} {M : MM} (h : bM M) (i : Nat) : ∀ j, c_hb n f M i j < 2147483648 := by
  intro j
  induction j with
  | zero => show (0 : Nat) < 2147483648; decide
  | succ j ih =>
    have := h.1 10 (5 * i + j) rfl
    simp only [c_hb]; split
    · exact ih
    · split
      · exact ih
      · exact this
theorem c_ct_mono {M : MM} {i x y : Nat} (h : x ≤ y) : ∀ j, c_ct M i y j ≤ c_ct M i x j := by
  intro j
  induction j with
  | zero => exact Nat.le_refl _
  | succ j ih =>
    simp only [c_ct]
    split <;> split <;> omega
theorem c_ct_ex {M : MM} {i x : Nat} : ∀ j, c_ct M i x j ≠ c_ct M i (x + 1) j → ∃ k, k < j ∧ M 10 (5 * i + k) = x := by
  intro j
  induction j with
  | zero => intro h; exact absurd rfl h
  | succ j ih =>
    intro h
    by_cases hj : M 10 (5 * i + j) = x
    · exact ⟨j, by omega, hj⟩
    · have : c_ct M i x j ≠ c_ct M i (x + 1) j := by
        intro e
        apply h
        simp only [c_ct, e]
        split <;> split <;> omega
      obtain ⟨k, h1, h2⟩ := ih this
      exact ⟨k, by omega, h2⟩
theorem c_ct_big {M : MM} (h : bM M) (i : Nat) : ∀ j, c_ct M i 2147483648 j = 0 := by
  intro j
  induction j with
  | zero => rfl
  | succ j ih =>
    have := h.1 10 (5 * i + j) rfl
    simp only [c_ct, ih]
    rw [if_pos this]
theorem c_hb_ge {n f : Nat} {M : MM} {i k : Nat} (hk : f ≤ c_ct M i (M 10 (5 * i + k)) n) : ∀ j, k < j → M 10 (5 * i + k) ≤ c_hb n f M i j := by
  intro j
  induction j with
  | zero => intro h; exact absurd h (Nat.not_lt_zero _)
  | succ j ih =>
    intro h
    have hm : c_hb n f M i j ≤ c_hb n f M i (j + 1) := by
      simp only [c_hb]; split
      · exact Nat.le_refl _
      · split <;> omega
    by_cases hkj : k = j
    · subst hkj
      simp only [c_hb]
      by_cases h1 : M 10 (5 * i + k) ≤ c_hb n f M i k
      · rw [if_pos h1]; exact h1
      · rw [if_neg h1, if_neg (by omega)]; exact Nat.le_refl _
    · exact Nat.le_trans (ih (by omega)) hm
theorem c_hb_at (n f : Nat) (M : MM) (i : Nat) : ∀ j, c_hb n f M i j = 0 ∨ f ≤ c_ct M i (c_hb n f M i j) n := by
  intro j
  induction j with
  | zero => exact Or.inl rfl
  | succ j ih =>
    simp only [c_hb]
    by_cases h1 : M 10 (5 * i + j) ≤ c_hb n f M i j
    · rw [if_pos h1]; exact ih
    · rw [if_neg h1]
      by_cases h2 : c_ct M i (M 10 (5 * i + j)) n < f
      · rw [if_pos h2]; exact ih
      · rw [if_neg h2]; exact Or.inr (by omega)
theorem c_hb_up {n f : Nat} {M : MM} (hB : bM M) (hf : 1 ≤ f) (i : Nat) : ∀ d x, 2147483648 - x ≤ d → f ≤ c_ct M i x n → x ≤ c_hb n f M i n := by
  intro d
  induction d with
  | zero =>
    intro x hx h
    have e := c_ct_big hB i n
    have := c_ct_mono (M := M) (i := i) (show 2147483648 ≤ x by omega) n
    omega
  | succ d ih =>
    intro x hx h
    by_cases h1 : f ≤ c_ct M i (x + 1) n
    · have := ih (x + 1) (by omega) h1; omega
    · obtain ⟨k, hk, e⟩ := c_ct_ex n (show c_ct M i x n ≠ c_ct M i (x + 1) n by omega)
      have := c_hb_ge (n := n) (f := f) (M := M) (i := i) (k := k) (by rw [e]; exact h) n hk
      omega
theorem c_hb_iff {n f : Nat} {M : MM} (hB : bM M) (hf : 1 ≤ f) {i x : Nat} (hx : 1 ≤ x) : f ≤ c_ct M i x n ↔ x ≤ c_hb n f M i n := by
  refine ⟨fun h => c_hb_up hB hf i _ x (Nat.le_refl _) h, fun h => ?_⟩
  rcases c_hb_at n f M i n with e | e
  · omega
  · exact Nat.le_trans e (c_ct_mono h n)
theorem hv_ct {M : MM} {i x : Nat} (h0 : M 10 (5 * i + i) = 0) (hx : 1 ≤ x) : ∀ j, m_hv M i x j = c_ct M i x j := by
  intro j
  induction j with
  | zero => rfl
  | succ j ih =>
    simp only [m_hv, c_ct, ih]
    by_cases hj : j = i
    · subst hj
      rw [if_pos rfl, h0, if_pos (by omega)]
    · rw [if_neg hj]
theorem hr_hb {n f : Nat} {M : MM} (hB : bM M) (hf : 1 ≤ f) {i : Nat} (h0 : M 10 (5 * i + i) = 0) : ∀ x, m_hr n f M i x = up2 M 4 i (m_gre (M 4 i) (m_les (c_hb n f M i n) x)) := by
  intro x
  induction x with
  | zero =>
    have e : m_gre (M 4 i) (m_les (c_hb n f M i n) 0) = M 4 i := by unfold m_gre m_les; split <;> split <;> omega
    rw [e, up2_id rfl]; rfl
  | succ x ih =>
    unfold m_hr
    by_cases h1 : x + 1 ≤ M 4 i
    · rw [if_pos h1]
      have e : m_gre (M 4 i) (m_les (c_hb n f M i n) (x + 1)) = M 4 i := by
        have := (m_les_le (c_hb n f M i n) (x + 1)).2
        unfold m_gre; split <;> omega
      rw [e, up2_id rfl]
    · rw [if_neg h1, hv_ct h0 (by omega)]
      have hi := c_hb_iff (n := n) (i := i) (x := x + 1) hB hf (by omega)
      by_cases h2 : c_ct M i (x + 1) n < f
      · rw [if_pos h2, ih]
        have : c_hb n f M i n ≤ x := Nat.le_of_not_lt fun z => by have := hi.mpr z; omega
        congr 1
        unfold m_gre m_les
        split <;> split <;> (try split) <;> (try split) <;> omega
      · rw [if_neg h2]
        have : x + 1 ≤ c_hb n f M i n := hi.mp (by omega)
        congr 1
        unfold m_gre m_les
        split <;> split <;> omega
/-! a change of view -/
theorem pa_no {M : MM} {i k v c : Nat} (hk : m_hl k = 0) : ∀ j x y, x = 2 ∨ x = 3 ∨ x = 4 → m_pa M i k v c j x y = M x y := by
  intro j
  induction j with
  | zero => intro x y _; rfl
  | succ j ih =>
    intro x y hx
    unfold m_pa
    split
    · exact ih x y hx
    · by_cases h240 : m_pa M i k v c j 17 0 = 240
      · simp only [m_post, if_pos h240]
        rw [up2_ne _ _ (by omega)]; exact ih x y hx
      · have no := m_post_no (M := m_pa M i k v c j) (i := i) (j := j) (v := v) (c := c) h240 hk
        rcases hx with rfl | rfl | rfl
        · rw [(no 0).2.2 y]; exact ih 2 y (by omega)
        · rw [(no y).1]; exact ih 3 y (by omega)
        · rw [(no y).2.1]; exact ih 4 y (by omega)
theorem chg_o {n : Nat} {M : MM} {i v x y : Nat} (h : x = 2 ∨ x = 3 ∨ x = 4 ∨ x = 7 ∨ x = 9 ∨ x = 10 ∨ x = 13 ∨ x = 14 ∨ x = 15 ∨ x = 16 ∨ x = 24 ∨ x = 25) : m_chg n M i v x y = M x y := by
  have e : m_fg (up2 (up2 M 6 i v) 5 i 1) i x y = M x y := by
    rw [m_fg_at, if_neg (by omega), if_neg (by omega), up2_ne _ _ (by omega), up2_ne _ _ (by omega)]
  unfold m_chg
  by_cases h3 : x = 2 ∨ x = 3 ∨ x = 4
  · rw [pa_no (by decide) _ _ _ h3, e]
  · rw [m_pa_o _ _ _ _ _ (by omega), e]
theorem chg_at {n : Nat} {M : MM} {i v : Nat} : m_chg n M i v 5 i = 1 ∧ m_chg n M i v 6 i = v ∧ m_chg n M i v 8 i = 0 ∧ ∀ j, j < 5 → m_chg n M i v 11 (5 * i + j) = 0 ∧ m_chg n M i v 12 (5 * i + j) = 0 := by
  unfold m_chg
  rw [m_pa_o _ _ _ _ _ (by decide), m_pa_o _ _ _ _ _ (by decide), m_pa_o _ _ _ _ _ (by decide)]
  refine ⟨?_, ?_, ?_, fun j hj => ?_⟩
  · rw [m_fg_at, if_neg (by omega), if_neg (by omega), up2_self]
  · rw [m_fg_at, if_neg (by omega), if_neg (by omega), up2_ne _ _ (by omega), up2_self]
  · rw [m_fg_at, if_pos ⟨rfl, rfl⟩]
  · rw [m_pa_o _ _ _ _ _ (by decide), m_pa_o _ _ _ _ _ (by decide), m_fg_at, m_fg_at, if_neg (by omega), if_pos (by omega), if_neg (by omega), if_pos (by omega)]
    exact ⟨rfl, rfl⟩
theorem up2_dif {M : MM} {a k v x y : Nat} (h : up2 M a k v x y ≠ M x y) : x = a ∧ y = k :=
  Classical.byContradiction fun z => h (up2_ne _ _ z)
theorem J_cast {n : Nat} {M : MM} {i : Nat} (h : J M) (hi : i < n) (hn : n ≤ 5) : J (c_cast n M i) := by
  have h1 := J_up h 8 i (v := 1) (by decide) (Or.inl (by decide))
  unfold c_cast
  split
  · exact J_post h1 (by omega) (Nat.lt_of_le_of_lt (Nat.mod_le _ _) (h.1.1 6 i rfl)) (by decide) (h.1.1 6 i rfl) (h.1.1 7 i rfl)
  · exact J_cp (J_up (J_up h1 12 _ (by decide) (Or.inl (by decide))) 13 _ (by decide) (Or.inl (h.1.1 7 i rfl))) (by omega)
/-- the votes asked for: what the class leaves is what the reference leaves -/
theorem ask2_not {n f : Nat} {A : MM} {i s d : Nat} (h5 : A 5 i ≠ 1) : m_ask2 n f A i s d = (d, A) := by rw [m_ask2, if_neg h5]
theorem ask2_had {n f : Nat} {A : MM} {i s d : Nat} (h5 : A 5 i = 1) (h11 : A 11 (5 * i + s) ≠ 0) (h1 : A 11 (5 * i + s) ≤ 1) (hI : f ≤ m_cnt A 11 (5 * i) n → A 8 i ≠ 0) : m_ask2 n f A i s d = (d, A) := by
  have e : up2 A 11 (5 * i + s) 1 = A := up2_id (by omega)
  rw [m_ask2, if_pos h5, e]
  by_cases hc : m_cnt A 11 (5 * i) n < f
  · rw [if_pos hc, if_neg h11]
  · rw [if_neg hc, if_neg (hI (by omega)), if_neg h11]
theorem ask2_few {n f : Nat} {A : MM} {i s d : Nat} (h5 : A 5 i = 1) (h11 : A 11 (5 * i + s) = 0) (h : A 8 i ≠ 0 ∨ m_cnt (up2 A 11 (5 * i + s) 1) 11 (5 * i) n < f) : m_ask2 n f A i s d = (1, up2 A 11 (5 * i + s) 1) := by
  rw [m_ask2, if_pos h5]
  by_cases hc : m_cnt (up2 A 11 (5 * i + s) 1) 11 (5 * i) n < f
  · rw [if_pos hc, if_pos h11]
  · rw [if_neg hc, if_neg (by omega), if_pos h11]
theorem ask2_cast {n f : Nat} {A : MM} {i s d : Nat} (h5 : A 5 i = 1) (h11 : A 11 (5 * i + s) = 0) (h8 : A 8 i = 0) (h12 : A 12 (5 * i + i) = 0) (hc : f ≤ m_cnt (up2 A 11 (5 * i + s) 1) 11 (5 * i) n) : m_ask2 n f A i s d = (1, (m_tv2 n f (c_cast n (up2 A 11 (5 * i + s) 1) i) i).2) := by
  have e6 : up2 A 11 (5 * i + s) 1 6 i = A 6 i := up2_ne _ _ (by omega)
  have e7 : up2 A 11 (5 * i + s) 1 7 i = A 7 i := up2_ne _ _ (by omega)
  rw [m_ask2, if_pos h5, if_neg (by omega), if_pos h8, c_cast, e6, e7]
  by_cases hf : m_fst n (up2 (up2 A 11 (5 * i + s) 1) 8 i 1) i = 0
  · rw [if_pos hf, if_pos hf, if_pos h11, tv2_no (Or.inr ?_)]
    rw [m_post_o _ _ _ _ _ _ (by decide), up2_ne _ _ (by omega), up2_ne _ _ (by omega)]; exact h12
  · rw [if_neg hf, if_neg hf, if_pos h11, m_tv, if_pos (by rw [up2_ne _ _ (by omega), up2_ne _ _ (by omega)]; exact h5), if_pos (by rw [up2_ne _ _ (by omega), up2_ne _ _ (by omega)]; exact h12)]
    rfl
theorem tv2_1 (n f : Nat) (M : MM) (i : Nat) : (m_tv2 n f M i).1 = 1 := by
  unfold m_tv2; split
  · rfl
  · split <;> rfl
theorem tv_yes {n f : Nat} {A : MM} {i s g c : Nat} (h5 : A 5 i = 1) (h12 : A 12 (5 * i + s) = 0) : m_tv n f A i s g c = (1, (m_tv2 n f (m_vt A i s g c) i).2) := by
  rw [m_tv, if_pos h5, if_pos h12]
  exact Prod.ext (tv2_1 _ _ _ _) rfl
theorem tv_no {n f : Nat} {A : MM} {i s g c : Nat} (h : A 5 i ≠ 1 ∨ A 12 (5 * i + s) ≠ 0) : m_tv n f A i s g c = (0, A) := by
  unfold m_tv
  by_cases h5 : A 5 i = 1
  · rw [if_pos h5, if_neg (by omega)]
  · rw [if_neg h5]
