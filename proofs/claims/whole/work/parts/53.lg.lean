/-! the logs: asked, compared, played, made longer -/
theorem c_fld_s {M : MM} {g j w : Nat} (h2 : j + 1 ≤ M 3 g) (h3 : M 3 g ≤ 16) (hw : w < 6) : c_fld M g (nI (j + 1)) (nI w) = nI (M 2 (96 * g + 6 * j + w)) := c_fld_in (by omega) h2 h3 hw
theorem c_new_0 {M : MM} {i c x j : Nat} (h : m_new M i c x j = 0) : ∀ k, j ≤ k → m_new M i c x k = 0 := by
  intro k
  induction k with
  | zero => intro hk; rw [show j = 0 by omega] at h; exact h
  | succ k ih =>
    intro hk
    by_cases hj : j = k + 1
    · rw [← hj]; exact h
    · rw [m_new, if_pos (ih (by omega))]
theorem m_new_s {M : MM} {i c x j : Nat} (h : m_new M i c x j ≠ 0) (h2 : M 2 (96 * i + 6 * j + 0) ≠ c ∨ M 2 (96 * i + 6 * j + 1) < x) : m_new M i c x (j + 1) ≠ 0 := by
  rw [m_new, if_neg h]
  by_cases h1 : M 2 (96 * i + 6 * j) = c
  · rw [if_pos h1]
    rcases h2 with h2 | h2
    · exact absurd h1 h2
    · rw [if_pos h2]; decide
  · rw [if_neg h1]; decide
theorem m_new_n {M : MM} {i c x j : Nat} (h1 : M 2 (96 * i + 6 * j + 0) = c) (h2 : x ≤ M 2 (96 * i + 6 * j + 1)) : m_new M i c x (j + 1) = 0 := by
  rw [m_new]
  split
  · rfl
  · rw [if_pos (show M 2 (96 * i + 6 * j) = c from h1), if_neg (by omega)]
theorem m_sm_no {M : MM} {i j k : Nat} (h : ¬ nI (M 2 (96 * i + k)) = nI (M 2 (96 * j + k))) : ∀ m, k < m → m_sm M i j m = false := by
  intro m
  induction m with
  | zero => intro hk; exact absurd hk (Nat.not_lt_zero _)
  | succ m ih =>
    intro hk
    unfold m_sm
    by_cases hm : k = m
    · subst hm; rw [decide_eq_false h, Bool.and_false]
    · rw [ih (by omega), Bool.false_and]
theorem m_sm_s {M : MM} {i j k : Nat} (h0 : m_sm M i j k = true) (h : nI (M 2 (96 * i + k)) = nI (M 2 (96 * j + k))) : m_sm M i j (k + 1) = true := by
  unfold m_sm
  rw [h0, decide_eq_true h]; rfl
def c_sm (M : MM) (i j k : Nat) : Nat := if m_sm M i j k = true then 1 else 0
theorem c_sm_le (M : MM) (i j k : Nat) : c_sm M i j k ≤ 1 := by unfold c_sm; split <;> decide
def c_ans (M : MM) (i c x : Nat) : Nat := if m_new M i c x (M 3 i) = 0 then 1 else 0
theorem c_ans_le (M : MM) (i c x : Nat) : c_ans M i c x ≤ 1 := by unfold c_ans; split <;> decide
theorem iv_row (X : Mem) (a j v : Nat) : iv (wI X a j v) a = va_up (iv X a) j v := by
  funext k
  show (if a = a ∧ k = j then v else iv X a k) = if k = j then v else iv X a k
  by_cases h : k = j
  · rw [if_pos ⟨rfl, h⟩, if_pos h]
  · rw [if_neg (fun z => h z.2), if_neg h]
theorem cM_r1 {b n i : Nat} (hi : i < n) (X : Mem) (M : MM) (P : Nat → Nat) (j : Nat) : iv (cM b n X M P) (na b i + 1) j = iv X (na b i + 1) j := by
  rw [cM_iv, show na b i + 1 = b + 6 + 5 * i + 1 from rfl, cV_node hi (by decide), if_neg (by decide), if_neg (by omega)]
theorem cM_fr1 {b n i : Nat} (hi : i < n) (X : Mem) (M : MM) (P : Nat → Nat) (k : Nat) : fl (cM b n X M P) (na b i + 1) 0 k = cM b n (fl X (na b i + 1) 0 k) M P := by
  refine Prod.ext rfl (Prod.ext rfl (Prod.ext rfl (Prod.ext ?_ rfl)))
  funext a j
  show (if a = na b i + 1 ∧ j < k then 0 else cV b n M P a j (iv X a j)) = cV b n M P a j (if a = na b i + 1 ∧ j < k then 0 else iv X a j)
  by_cases h : a = na b i + 1 ∧ j < k
  · rw [if_pos h, if_pos h, h.1, show na b i + 1 = b + 6 + 5 * i + 1 from rfl, cV_node hi (by decide), if_neg (by decide), if_neg (by omega)]
  · rw [if_neg h, if_neg h]
theorem Sd_fr1 {b n f i : Nat} {X : Mem} {M : MM} (h : Sd b n f X M) (hi : i < n) : ∀ k, Sd b n f (fl X (na b i + 1) 0 k) M ∧ go b n X (fl X (na b i + 1) 0 k) := by
  intro k
  induction k with
  | zero => rw [fl_0]; exact ⟨h, go_rf b n X⟩
  | succ k ih =>
    rw [← fl_s]
    obtain ⟨h1, h2⟩ := Sd_reg (k := k) (v := 0) ih.1 hi
    exact ⟨h1, go_tr ih.2 h2⟩
theorem fl_at (X : Mem) (a : Nat) {k x : Nat} (h : x < k) : iv (fl X a 0 k) a x = 0 := if_pos ⟨rfl, h⟩
/-- a log with one entry more -/
theorem cM_cpm {b n : Nat} (X : Mem) (M : MM) (P : Nat → Nat) {a : Nat} (k q : Nat) (h : he b n ≤ nx X) (ha : a = b + 2 ∨ he b n ≤ a) : cpm (cM b n X M P) a k q = cM b n (cpm X a k q) M P := by
  refine Prod.ext rfl (Prod.ext rfl (Prod.ext rfl (Prod.ext ?_ rfl)))
  funext c j
  show va_up (fun a j => cV b n M P a j (iv X a j)) (nx X) (fun j => if j < k then cV b n M P a j (iv X a j) else 0) c j = cV b n M P c j (va_up (iv X) (nx X) (fun j => if j < k then iv X a j else 0) c j)
  unfold he at h ha
  by_cases hc : c = nx X
  · subst hc
    rw [va_up_self, va_up_self, cV_out (a := a) (by omega) (by omega), cV_out (a := nx X) (by omega) (by omega)]
  · rw [va_up_ne _ _ hc, va_up_ne _ _ hc]
theorem fr_cpm (X : Mem) (a k q : Nat) : fr X (cpm X a k q) := by
  refine ⟨Nat.le_succ _, fun c hc => ?_⟩
  have hne : c ≠ nx X := by omega
  exact ⟨va_up_ne _ _ hne, va_up_ne _ _ hne, va_up_ne _ _ hne, va_up_ne _ _ hne⟩
def lgw (X : Mem) (a z c x k a0 b0 v : Nat) : Mem := wI (wI (wI (wI (wI (wI (cpm X a z (z + 6)) (nx X) z c) (nx X) (z + 1) x) (nx X) (z + 2) k) (nx X) (z + 3) a0) (nx X) (z + 4) b0) (nx X) (z + 5) v
def lgx (X : Mem) (a z c x k a0 b0 v : Nat) : Mem := wR (nw (lgw X a z c x k a0 b0 v) 2 0) (nx X + 1) 0 (some (nx X))
theorem lgx_fr (X : Mem) (a z c x k a0 b0 v : Nat) : fr X (lgx X a z c x k a0 b0 v) :=
  fr_wR (fr_nw (fr_wI (fr_wI (fr_wI (fr_wI (fr_wI (fr_wI (fr_cpm X a z (z + 6)) (Nat.le_refl _)) (Nat.le_refl _)) (Nat.le_refl _)) (Nat.le_refl _)) (Nat.le_refl _)) (Nat.le_refl _)) 2 0) (Nat.le_succ _)
theorem lgx_at {b n : Nat} {X : Mem} {M : MM} {g a : Nat} (c x k a0 b0 v : Nat) (h : he b n ≤ nx X) (h4 : ∀ j, j < 6 * M 3 g → iv X a j = M 2 (96 * g + j)) : LogAt b n (lgx X a (6 * M 3 g) c x k a0 b0 v) (nx X + 1) (m_ent M g c x k a0 b0 v) g := by
  have e3 : m_ent M g c x k a0 b0 v 3 g = M 3 g + 1 := up2_self _ _ _ _
  refine ⟨va_up_self _ _ _, nx X, up2_self _ _ _ _, ?_, ?_, fun j hj => ?_, Or.inr h⟩
  · show va_up (va_up (kd X) (nx X) 7) (nx X + 1) 2 (nx X) = 7
    rw [va_up_ne _ _ (by omega), va_up_self]
  · show va_up (va_up (ln X) (nx X) (6 * M 3 g + 6)) (nx X + 1) 0 (nx X) = _
    rw [va_up_ne _ _ (by omega), va_up_self, e3]; omega
  · rw [e3] at hj
    show va_up (iv (lgw X a (6 * M 3 g) c x k a0 b0 v)) (nx X + 1) (fun _ => 0) (nx X) j = _
    rw [va_up_ne _ _ (by omega)]
    unfold m_ent
    rw [up2_ne _ _ (by omega)]
    show up2 (up2 (up2 (up2 (up2 (up2 (iv (cpm X a (6 * M 3 g) (6 * M 3 g + 6))) (nx X) (6 * M 3 g) c) (nx X) (6 * M 3 g + 1) x) (nx X) (6 * M 3 g + 2) k) (nx X) (6 * M 3 g + 3) a0) (nx X) (6 * M 3 g + 4) b0) (nx X) (6 * M 3 g + 5) v (nx X) j = _
    by_cases h5 : j = 6 * M 3 g + 5
    · subst h5; rw [up2_self, show 96 * g + (6 * M 3 g + 5) = 96 * g + 6 * M 3 g + 5 by omega, up2_self]
    rw [up2_ne _ _ (by omega), up2_ne _ _ (show ¬ (2 = 2 ∧ 96 * g + j = 96 * g + 6 * M 3 g + 5) by omega)]
    by_cases h4' : j = 6 * M 3 g + 4
    · subst h4'; rw [up2_self, show 96 * g + (6 * M 3 g + 4) = 96 * g + 6 * M 3 g + 4 by omega, up2_self]
    rw [up2_ne _ _ (by omega), up2_ne _ _ (show ¬ (2 = 2 ∧ 96 * g + j = 96 * g + 6 * M 3 g + 4) by omega)]
    by_cases h3 : j = 6 * M 3 g + 3
    · subst h3; rw [up2_self, show 96 * g + (6 * M 3 g + 3) = 96 * g + 6 * M 3 g + 3 by omega, up2_self]
    rw [up2_ne _ _ (by omega), up2_ne _ _ (show ¬ (2 = 2 ∧ 96 * g + j = 96 * g + 6 * M 3 g + 3) by omega)]
    by_cases h2 : j = 6 * M 3 g + 2
    · subst h2; rw [up2_self, show 96 * g + (6 * M 3 g + 2) = 96 * g + 6 * M 3 g + 2 by omega, up2_self]
    rw [up2_ne _ _ (by omega), up2_ne _ _ (show ¬ (2 = 2 ∧ 96 * g + j = 96 * g + 6 * M 3 g + 2) by omega)]
    by_cases h1 : j = 6 * M 3 g + 1
    · subst h1; rw [up2_self, show 96 * g + (6 * M 3 g + 1) = 96 * g + 6 * M 3 g + 1 by omega, up2_self]
    rw [up2_ne _ _ (by omega), up2_ne _ _ (show ¬ (2 = 2 ∧ 96 * g + j = 96 * g + 6 * M 3 g + 1) by omega)]
    by_cases h0 : j = 6 * M 3 g
    · subst h0; rw [up2_self, up2_self]
    rw [up2_ne _ _ (by omega), up2_ne _ _ (show ¬ (2 = 2 ∧ 96 * g + j = 96 * g + 6 * M 3 g) by omega)]
    show va_up (iv X) (nx X) (fun j => if j < 6 * M 3 g then iv X a j else 0) (nx X) j = _
    rw [va_up_self, if_pos (by omega), h4 j (by omega)]
/-- a letter's log and sure, whatever its sort -/
theorem Lt_lg {b n f : Nat} {X : Mem} {M : MM} {l q : Nat} (hs : Sd b n f X M) (hL : mL M) (h : Lt b n X M l q) (hl : l < 240) : ∃ lg M2 g2 s2, rv X q 6 = some lg ∧ LogAt b n X lg M2 g2 ∧ M2 3 g2 ≤ 16 ∧ nI (M2 3 g2) = (if m_hl (M 21 l) = 0 then nI 0 else nI (M 3 (55 + l))) ∧ iv X q 4 = s2 ∧ nI s2 = (if m_hl (M 21 l) = 0 then nI 0 else nI (M 4 (55 + l))) := by
  obtain ⟨-, lg, h1, h2, h3⟩ := h
  by_cases hh : m_hl (M 21 l) = 0
  · obtain ⟨e1, e2⟩ := h3 hh
    subst e2
    exact ⟨b + 1, _, _, 0, h1, lg_emp hs, by show (0 : Nat) ≤ 16; decide, by rw [if_pos hh], e1, by rw [if_pos hh]⟩
  · obtain ⟨e1, e2⟩ := h2 hh
    exact ⟨lg, M, 55 + l, _, h1, e2, (hL (55 + l) (by omega)).1, by rw [if_neg hh], e1, by rw [if_neg hh]⟩
/-- letters dropped, counted over the whole pool -/
theorem cnt_tail {M : MM} {x L : Nat} (h : ∀ l, L ≤ l → M x l = 0) : ∀ k, L ≤ k → m_cnt M x 0 k = m_cnt M x 0 L := by
  intro k
  induction k with
  | zero => intro hk; rw [show L = 0 by omega]
  | succ k ih =>
    intro hk
    by_cases hL : L = k + 1
    · rw [hL]
    · rw [m_cnt, ih (by omega), Nat.zero_add, if_pos (h k (by omega))]; rfl
