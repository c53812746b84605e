/-! the world between two calls of the law -/
def WD (b n f : Nat) (Z : Mem) (M : MM) (P : Nat → Nat) : Prop := Sd b n f Z M ∧ mS (b + 7 + 5 * n) n f Z ∧ cM b n Z M P = Z ∧ sM (b + 7 + 5 * n) Z M = Z ∧ Ij n f M P
theorem cN_idem (n : Nat) (M : MM) (P : Nat → Nat) (i j d : Nat) : cN n M P i j (cN n M P i j d) = cN n M P i j d := by
  unfold cN
  by_cases a1 : j = 9
  · simp only [if_pos a1]
  by_cases a2 : j = 10
  · simp only [if_neg a1, if_pos a2]
  by_cases a3 : j = 11
  · simp only [if_neg a1, if_neg a2, if_pos a3]
  by_cases a4 : j = 13
  · simp only [if_neg a1, if_neg a2, if_neg a3, if_pos a4]
  by_cases a5 : j = 14
  · simp only [if_neg a1, if_neg a2, if_neg a3, if_neg a4, if_pos a5]
  by_cases a6 : j = 15
  · simp only [if_neg a1, if_neg a2, if_neg a3, if_neg a4, if_neg a5, if_pos a6]
  by_cases a7 : j = 16
  · simp only [if_neg a1, if_neg a2, if_neg a3, if_neg a4, if_neg a5, if_neg a6, if_pos a7]
  simp only [if_neg a1, if_neg a2, if_neg a3, if_neg a4, if_neg a5, if_neg a6, if_neg a7]
theorem cV_idem (b n : Nat) (M : MM) (P : Nat → Nat) (a j d : Nat) : cV b n M P a j (cV b n M P a j d) = cV b n M P a j d := by
  rcases cV_cases b n a with rfl | rfl | ⟨i', r, hi', hr, rfl⟩ | ⟨h1, h2⟩
  · simp only [cV_pool]
    by_cases h : j = 1
    · simp only [if_pos h]
    · by_cases h2 : j = 2
      · simp only [if_neg h, if_pos h2]
      · simp only [if_neg h, if_neg h2]
  · simp only [cV_cut]
    by_cases h : j < n * n ∧ j / n < j % n
    · simp only [if_pos h]
    · simp only [if_neg h]
  · simp only [cV_node hi' hr]
    by_cases h0 : r = 0
    · simp only [if_pos h0, cN_idem]
    · by_cases h4 : r = 4 ∧ j < n
      · simp only [if_neg h0, if_pos h4]
      · simp only [if_neg h0, if_neg h4]
  · rw [cV_out h1 h2, cV_out h1 h2]
theorem sM_out {mb : Nat} (X : Mem) (M : MM) {a : Nat} (h : a < mb ∨ mb + 23 ≤ a) (j : Nat) : iv (sM mb X M) a j = iv X a j := by
  show (if a = mb then _ else if mb < a ∧ a < mb + 23 then _ else iv X a j) = iv X a j
  rw [if_neg (by omega), if_neg (by omega)]
theorem sM_mb {mb : Nat} (X : Mem) (M : MM) (j : Nat) : iv (sM mb X M) mb j = if j = 17 then M 17 0 else if j = 18 then M 18 0 else iv X mb j := if_pos rfl
theorem sM_in {mb : Nat} (X : Mem) (M : MM) {a : Nat} (h1 : mb < a) (h2 : a < mb + 23) (j : Nat) : iv (sM mb X M) a j = M (fo (a - mb)) j := by
  show (if a = mb then _ else if mb < a ∧ a < mb + 23 then _ else iv X a j) = _
  rw [if_neg (by omega), if_pos ⟨h1, h2⟩]
theorem sM_ext {mb : Nat} {X : Mem} {M : MM} (h1 : iv X mb 17 = M 17 0) (h2 : iv X mb 18 = M 18 0) (h3 : ∀ a j, mb < a → a < mb + 23 → iv X a j = M (fo (a - mb)) j) : sM mb X M = X := by
  refine Prod.ext rfl (Prod.ext rfl (Prod.ext rfl (Prod.ext ?_ rfl)))
  funext a j
  show iv (sM mb X M) a j = iv X a j
  by_cases ha : a = mb
  · subst ha
    rw [sM_mb]
    by_cases h17 : j = 17
    · rw [if_pos h17, h17, h1]
    · rw [if_neg h17]
      by_cases h18 : j = 18
      · rw [if_pos h18, h18, h2]
      · rw [if_neg h18]
  · by_cases hr : mb < a ∧ a < mb + 23
    · rw [sM_in X M hr.1 hr.2, h3 a j hr.1 hr.2]
    · exact sM_out X M (by omega) j
theorem cM_ext {b n : Nat} {X : Mem} {M : MM} {P : Nat → Nat} (h : ∀ a j, cV b n M P a j (iv X a j) = iv X a j) : cM b n X M P = X := by
  refine Prod.ext rfl (Prod.ext rfl (Prod.ext rfl (Prod.ext ?_ rfl)))
  funext a j
  exact h a j
theorem LogAt_iv {b n : Nat} {X Y : Mem} {lg : Nat} {M : MM} {g : Nat} (h : LogAt b n X lg M g) (e2 : kd Y = kd X) (e3 : ln Y = ln X) (e4 : rv Y = rv X) (hA : ∀ a, a = b + 2 ∨ he b n ≤ a → iv Y a = iv X a) : LogAt b n Y lg M g := by
  obtain ⟨h1, c, h2, h3, h4, h5, h6⟩ := h
  exact ⟨by rw [e2]; exact h1, c, by rw [e4]; exact h2, by rw [e2]; exact h3, by rw [e3]; exact h4, fun q hq => by rw [hA c h6]; exact h5 q hq, h6⟩
theorem Sd_iv {b n f : Nat} {X Y : Mem} {M : MM} (h : Sd b n f X M) (e1 : nx Y = nx X) (e2 : kd Y = kd X) (e3 : ln Y = ln X) (e4 : rv Y = rv X) (hL : ∀ a, kd X a = 1 → iv Y a = iv X a) (hA : ∀ a, a = b + 2 ∨ he b n ≤ a → iv Y a = iv X a) (hN : ∀ i, i < n → ∀ k, k < 3 → iv Y (na b i) k = iv X (na b i) k) (hC : ∀ i j, i < n → j < n → j ≤ i → iv Y (b + 6 + 5 * n) (i * n + j) = iv X (b + 6 + 5 * n) (i * n + j)) : Sd b n f Y M := by
  obtain ⟨h1, ⟨p1, p2⟩, h3, h4, h5, h6, h7, h8, h9⟩ := h
  refine ⟨?_, ⟨fun l l' hl hl' e => p1 l l' hl hl' (by rw [e4] at e; exact e), fun l hl hl2 => by rw [e4]; exact p2 l hl hl2⟩, fun l hl => ?_, fun i hi => ?_, fun i j hi hj => ?_, fun i j hi hj => ?_, fun i j hi hj => ⟨(h7 i j hi hj).1, fun hji => by rw [hC i j hi hj hji]; exact (h7 i j hi hj).2 hji⟩, by rw [e1]; exact h8, fun a ha hb => by rw [e2]; exact h9 a ha hb⟩
  · obtain ⟨a, b', c, d, e, g, hh⟩ := h1
    unfold Fx
    rw [e2, e3, e4]
    refine ⟨a, b', c, d, e, fun i hi => ?_, hh⟩
    rw [hN i hi 0 (by decide), hN i hi 1 (by decide), hN i hi 2 (by decide)]
    exact g i hi
  · obtain ⟨q, q1, ⟨a1, a2, a3, a4, a5, a6, a7⟩, lg, q3, q4, q5⟩ := h3 l hl
    have ei := hL q a1
    refine ⟨q, by rw [e4]; exact q1, ⟨by rw [e2]; exact a1, by rw [ei]; exact a2, by rw [ei]; exact a3, by rw [ei]; exact a4, by rw [ei]; exact a5, by rw [ei]; exact a6, by rw [ei]; exact a7⟩, lg, by rw [e4]; exact q3, fun z => ⟨by rw [ei]; exact (q4 z).1, LogAt_iv (q4 z).2 e2 e3 e4 hA⟩, fun z => by rw [ei]; exact q5 z⟩
  · obtain ⟨lg, q1, q2⟩ := h4 i hi
    exact ⟨lg, by rw [e4]; exact q1, LogAt_iv q2 e2 e3 e4 hA⟩
  · obtain ⟨v1, v2⟩ := h5 i j hi hj
    refine ⟨fun z => by rw [e4]; exact v1 z, fun z => ?_⟩
    obtain ⟨q, lg, a1, a2, a3, a4, a5, a6⟩ := v2 z
    have ei := hL q a2
    exact ⟨q, lg, by rw [e4]; exact a1, by rw [e2]; exact a2, by rw [ei]; exact a3, by rw [ei]; exact a4, by rw [e4]; exact a5, LogAt_iv a6 e2 e3 e4 hA⟩
  · obtain ⟨v1, v2⟩ := h6 i j hi hj
    refine ⟨fun z => by rw [e4]; exact v1 z, fun z => ?_⟩
    obtain ⟨q, lg, a1, a2, a3, a4, a5, a6⟩ := v2 z
    have ei := hL q a2
    exact ⟨q, lg, by rw [e4]; exact a1, by rw [e2]; exact a2, by rw [ei]; exact a3, by rw [ei]; exact a4, by rw [e4]; exact a5, LogAt_iv a6 e2 e3 e4 hA⟩
theorem mS_iv {mb n f : Nat} {X Y : Mem} (h : mS mb n f X) (e2 : ∀ a, kd X a ≠ 0 → kd Y a = kd X a ∧ ln Y a = ln X a) (e4 : rv Y mb = rv X mb) (h0 : iv Y mb 0 = iv X mb 0) (h1 : iv Y mb 1 = iv X mb 1) : mS mb n f Y := by
  obtain ⟨a1, a2, a3, a4, a5⟩ := h
  refine ⟨by rw [(e2 mb (by rw [a1]; decide)).1]; exact a1, by rw [h0]; exact a2, by rw [h1]; exact a3, fun k hk => ?_, a5⟩
  obtain ⟨b1, b2, b3⟩ := a4 k hk
  have hne : kd X (mb + ao k) ≠ 0 := by rw [b2]; split <;> decide
  exact ⟨by rw [e4]; exact b1, by rw [(e2 _ hne).1]; exact b2, by rw [(e2 _ hne).2]; exact b3⟩
/-- behind a call of the class: the reference's cells are as they were -/
theorem WD_mid {b n f : Nat} {Z X1 : Mem} {M M' : MM} {P P' : Nat → Nat} (h : WD b n f Z M P) (hg : go b n Z X1) : mS (b + 7 + 5 * n) n f (cM b n X1 M' P') ∧ sM (b + 7 + 5 * n) (cM b n X1 M' P') M = cM b n X1 M' P' := by
  obtain ⟨hs, hm, -, hsm, -⟩ := h
  obtain ⟨-, g2, -, -, -, g6⟩ := hg
  have hhe : he b n = b + 7 + 5 * n + 23 := by unfold he; omega
  have o : ∀ a j, b + 7 + 5 * n ≤ a → a < b + 7 + 5 * n + 23 → iv (cM b n X1 M' P') a j = iv Z a j := fun a j h1 h2 => by
    rw [cM_o (by omega) (Or.inr h1), (g6 a h1 (by omega)).1]
  have es : ∀ a j, iv (sM (b + 7 + 5 * n) Z M) a j = iv Z a j := fun a j => by rw [hsm]
  refine ⟨mS_iv hm g2 ?_ (o _ 0 (by omega) (by omega)) (o _ 1 (by omega) (by omega)), sM_ext ?_ ?_ (fun a j h1 h2 => ?_)⟩
  · exact (g6 (b + 7 + 5 * n) (by omega) (by omega)).2
  · rw [o _ 17 (by omega) (by omega), ← es, sM_mb, if_pos rfl]
  · rw [o _ 18 (by omega) (by omega), ← es, sM_mb, if_neg (by decide), if_pos rfl]
  · rw [o a j (by omega) (by omega), ← es, sM_in Z M h1 h2]
/-- behind the reference's call -/
theorem WD_end {b n f : Nat} {X1 : Mem} {M' : MM} {P' : Nat → Nat} (hs : Sd b n f X1 M') (hm : mS (b + 7 + 5 * n) n f (cM b n X1 M' P')) (hI : Ij n f M' P') : WD b n f (sM (b + 7 + 5 * n) (cM b n X1 M' P') M') M' P' := by
  have hhe : he b n = b + 7 + 5 * n + 23 := by unfold he; omega
  have hout : ∀ a, a < b + 7 + 5 * n ∨ b + 7 + 5 * n + 23 ≤ a → ∀ j, iv (sM (b + 7 + 5 * n) (cM b n X1 M' P') M') a j = cV b n M' P' a j (iv X1 a j) := fun a ha j => by
    rw [sM_out _ _ ha]; rfl
  refine ⟨?_, ?_, ?_, ?_, hI⟩
  · refine Sd_iv hs rfl rfl rfl rfl (fun a ha => ?_) (fun a ha => ?_) (fun i hi k hk => ?_) (fun i j hi hj hji => ?_)
    · have hr : a < b + 7 + 5 * n ∨ b + 7 + 5 * n + 23 ≤ a := by
        rcases Nat.lt_or_ge a (b + 7 + 5 * n) with h | h
        · exact Or.inl h
        · rcases Nat.lt_or_ge a (b + 7 + 5 * n + 23) with h2 | h2
          · exact absurd ha (hs.2.2.2.2.2.2.2.2 a h (by omega)).1
          · exact Or.inr h2
      funext j
      rw [hout a hr j, cV_out (g_out hs (Or.inl ha)).1 (g_out hs (Or.inl ha)).2]
    · funext j
      rw [hout a (by omega) j, cV_out (by omega) (by omega)]
    · have hna : na b i = b + 6 + 5 * i + 0 := rfl
      rw [hout (na b i) (by unfold na; omega) k, hna, cV_node hi (by decide), if_pos rfl]
      unfold cN
      rw [if_neg (by omega), if_neg (by omega), if_neg (by omega), if_neg (by omega), if_neg (by omega), if_neg (by omega), if_neg (by omega)]
    · have h0 : 0 < n := by omega
      have e1 : (i * n + j) / n = i := by rw [Nat.mul_comm, Nat.mul_add_div h0, Nat.div_eq_of_lt hj]; rfl
      have e2 : (i * n + j) % n = j := by rw [Nat.mul_comm, Nat.mul_add_mod, Nat.mod_eq_of_lt hj]
      rw [hout _ (by omega) _, cV_cut, e1, e2, if_neg (by omega)]
  · refine mS_iv hm (fun a _ => ⟨rfl, rfl⟩) rfl ?_ ?_
    · rw [sM_mb, if_neg (by decide), if_neg (by decide)]
    · rw [sM_mb, if_neg (by decide), if_neg (by decide)]
  · refine cM_ext (fun a j => ?_)
    rcases Nat.lt_or_ge a (b + 7 + 5 * n) with h | h
    · rw [hout a (Or.inl h) j, cV_idem]
    · rw [cV_out (by omega) (by omega)]
  · refine sM_ext ?_ ?_ (fun a j h1 h2 => ?_)
    · rw [sM_mb, if_pos rfl]
    · rw [sM_mb, if_neg (by decide), if_pos rfl]
    · rw [sM_in _ _ h1 h2]
theorem Ij_25 {n f : Nat} {M : MM} {P : Nat → Nat} (h : Ij n f M P) (hn5 : n ≤ 5) (R : Nat → Nat) : Ij n f (m25 M R) P := by
  have o : ∀ x y, x ≠ 25 → m25 M R x y = M x y := fun x y hx => m25_ne M R y hx
  refine ⟨J_same h.1 (bM_25 h.1.1 R) (fun u => ⟨o 3 u (by decide), o 4 u (by decide), fun z _ => o 2 _ (by decide)⟩) (fun l hl => ?_), K_same h.2 hn5 (fun x y hx => o x y (by omega))⟩
  rw [o 17 0 (by decide)] at hl
  rw [o 24 l (by decide)]; exact h.1.2.2.2 l hl
/-- where the reference's scratch row has changed -/
theorem WD_end25 {b n f : Nat} {X1 : Mem} {M : MM} {P : Nat → Nat} (hs : Sd b n f X1 M) (hn5 : n ≤ 5) (hm : mS (b + 7 + 5 * n) n f (cM b n X1 M P)) (hI : Ij n f M P) (R : Nat → Nat) : WD b n f (sM (b + 7 + 5 * n) (cM b n X1 M P) (m25 M R)) (m25 M R) P := by
  have o : ∀ x y, x ≠ 25 → m25 M R x y = M x y := fun x y hx => m25_ne M R y hx
  have e : cM b n X1 M P = cM b n X1 (m25 M R) P := cM_hid hn5 X1 P (fun u _ => o 4 u (by decide)) (fun x y hx => o x y (by omega))
  rw [e] at hm ⊢
  exact WD_end (Sd_to hs ⟨fun x y hx => o x y (by omega), fun y _ => o 4 y (by decide)⟩) hm (Ij_25 hI hn5 R)
/-- a call that left the reference as it was -/
theorem WD_same {b n f : Nat} {Z X1 : Mem} {M : MM} {P : Nat → Nat} (h : WD b n f Z M P) (hs : Sd b n f X1 M) (hg : go b n Z X1) : WD b n f (cM b n X1 M P) M P := by
  obtain ⟨h1, h2⟩ := WD_mid (M' := M) (P' := P) h hg
  have := WD_end hs h1 h.2.2.2.2
  rw [h2] at this
  exact this
theorem Ij_0 {n f : Nat} : Ij n f (fun _ _ => 0) (fun _ => 0) := by
  have z1 : (0 : Nat) < 2147483648 := by decide
  have z2 : ∀ x : Nat, (0 : Nat) ≤ x := Nat.zero_le
  have z3 : ∀ x : Nat, x ≠ 0 → ∀ {p : Prop}, (0 : Nat) = x → p := fun x h _ e => absurd e.symm h
  refine ⟨⟨⟨fun _ _ _ => z1, z2 _⟩, fun g _ => ⟨z2 _, z2 _⟩, fun g k _ hk => absurd hk (Nat.not_lt_zero _), fun _ _ => rfl⟩, fun i hi => ?_, fun l hl => absurd hl (Nat.not_lt_zero _)⟩
  exact ⟨z2 _, z2 _, z2 _, fun _ => rfl, fun z => z3 1 (by decide) z, fun z => z3 1 (by decide) z, fun j hj => ⟨z2 _, z2 _⟩, rfl, fun z => z3 2 (by decide) z, z2 _, fun _ => rfl, fun z => z3 1 (by decide) z⟩
/-- both objects new -/
theorem WD_0 {b n f : Nat} {X0 Z Z1 Y : Mem} (hnf : (n = 3 ∧ f = 1) ∨ (n = 5 ∧ f = 2)) (hF : CF b n f X0 Z) (h1 : Z1 = nw Z 6 0) (hY : NB Z1 (nx Z) 22 (mR (nx Z1)) (mIi n f) mLs Y) : nx Z = b + 7 + 5 * n ∧ WD b n f Y (fun _ _ => 0) (fun _ => 0) := by
  obtain ⟨Z0, hI, hZ⟩ := hF
  obtain ⟨i1, -, i3, i4, i5, i6, i7⟩ := hI
  have nZ : nx Z = b + 7 + 5 * n := by rw [hZ, nx_wR, nx_nw, i1]; omega
  have n1 : nx Z1 = b + 7 + 5 * n + 1 := by rw [h1, nx_nw, nZ]
  obtain ⟨y1, y2, y3, y4, y5⟩ := hY
  rw [nZ] at y2 y3 y4
  rw [n1] at y1 y3 y5
  have hnx : nx Y = he b n := by rw [y1]; unfold he; omega
  -- cells of the class
  have o : ∀ a, a < b + 6 + 5 * n → kd Y a = kd Z0 a ∧ ln Y a = ln Z0 a ∧ (∀ j, iv Y a j = iv Z0 a j) ∧ ∀ j, ¬ (a = b ∧ j = 2) → rv Y a j = rv Z0 a j := fun a ha => by
    obtain ⟨e1, e2, e3⟩ := y2 a (by omega)
    refine ⟨?_, ?_, fun j => ?_, fun j hj => ?_⟩
    · rw [e1, h1, kd_nw_n (by omega), hZ, kd_wR, kd_nw_n (by omega)]
    · rw [e2, h1, ln_nw_n (by omega), hZ, ln_wR, ln_nw_n (by omega)]
    · rw [(e3 (by omega) j).1, h1, iv_nw_n (by omega), hZ, iv_wR, iv_nw_n (by omega)]
    · rw [(e3 (by omega) j).2, h1, rv_nw_n (by omega), hZ, rv_wR_n hj, rv_nw_n (by omega)]
  obtain ⟨c1, c2, c3⟩ := y2 (b + 6 + 5 * n) (by omega)
  have kc : kd Y (b + 6 + 5 * n) = 8 := by rw [c1, h1, kd_nw_n (by omega), hZ, kd_wR, kd_nw_e i1.symm]
  have lc : ln Y (b + 6 + 5 * n) = n * n := by rw [c2, h1, ln_nw_n (by omega), hZ, ln_wR, ln_nw_e i1.symm]
  have vc : ∀ j, iv Y (b + 6 + 5 * n) j = 0 := fun j => by rw [(c3 (by omega) j).1, h1, iv_nw_n (by omega), hZ, iv_wR, iv_nw_e i1.symm]
  have rb2 : rv Y b 2 = some (b + 6 + 5 * n) := by
    rw [((y2 b (by omega)).2.2 (by omega) 2).2, h1, rv_nw_n (by omega), hZ, rv_wR_e ⟨rfl, rfl⟩, i1]
  have hna : ∀ i, i < n → ∀ d, d < 5 → na b i + d < b + 6 + 5 * n := fun i hi d hd => by unfold na; omega
  -- cells of the reference
  have km : kd Y (b + 7 + 5 * n) = 6 := by rw [(y2 (b + 7 + 5 * n) (by omega)).1, h1, kd_nw_e nZ.symm]
  have vm0 : ∀ j, iv Y (b + 7 + 5 * n) j = (mIi n f j).getD 0 := fun j => by rw [y4 j, h1, iv_nw_e nZ.symm]
  have hreg : ∀ d, d < 22 → (mLs d).1 ≠ 1 ∧ (mLs d).1 ≠ 2 ∧ (mLs d).1 ≠ 0 := by decide
  have zin : ∀ a j, b + 7 + 5 * n < a → a < b + 7 + 5 * n + 23 → iv Y a j = 0 := fun a j g1 g2 => by
    have := ((y5 (a - (b + 7 + 5 * n + 1)) (by omega)).2.2 j).1
    rw [show b + 7 + 5 * n + 1 + (a - (b + 7 + 5 * n + 1)) = a by omega] at this
    exact this
  have hhe : he b n = b + 7 + 5 * n + 23 := by unfold he; omega
  have hFx : Fx b n f Y := by
    refine ⟨⟨?_, ?_, ?_, rb2⟩, ⟨?_, ?_, ?_, ?_⟩, ⟨?_, ?_, ?_, ?_⟩, ⟨?_, ?_, fun i hi => ?_⟩, ⟨kc, lc⟩, fun i hi => ?_, hnf⟩
    · rw [(o b (by omega)).1]; exact i3.1
    · rw [(o b (by omega)).2.2.2 0 (by omega)]; exact i3.2.1
    · rw [(o b (by omega)).2.2.2 1 (by omega)]; exact i3.2.2
    · rw [(o (b + 1) (by omega)).1]; exact i4.1
    · rw [(o (b + 1) (by omega)).2.2.2 0 (by omega)]; exact i4.2.1
    · rw [(o (b + 2) (by omega)).1]; exact i4.2.2.1
    · rw [(o (b + 2) (by omega)).2.1]; exact i4.2.2.2
    · rw [(o (b + 3) (by omega)).1]; exact i5.1
    · rw [(o (b + 3) (by omega)).2.2.2 0 (by omega)]; exact i5.2.1
    · rw [(o (b + 4) (by omega)).1]; exact i5.2.2.1
    · rw [(o (b + 4) (by omega)).2.1]; exact i5.2.2.2.1
    · rw [(o (b + 5) (by omega)).1]; exact i6.1
    · rw [(o (b + 5) (by omega)).2.1]; exact i6.2.1
    · rw [(o (b + 5) (by omega)).2.2.2 i (by omega)]; exact i6.2.2 i hi
    · obtain ⟨⟨a1, a2, a3, a4⟩, ⟨b1, b2, b3, b4, b5, b6⟩, ⟨d1, d2, d3, d4, d5, d6, d7, d8⟩, -, -, -⟩ := i7 i hi
      have hne : ∀ d j, ¬ (na b i + d = b ∧ j = 2) := fun d j => by unfold na; omega
      obtain ⟨z1, z2, z3, z4⟩ := o (na b i) (hna i hi 0 (by decide))
      obtain ⟨x1, x2, -, -⟩ := o (na b i + 1) (hna i hi 1 (by decide))
      obtain ⟨w1, w2, -, -⟩ := o (na b i + 2) (hna i hi 2 (by decide))
      obtain ⟨u1, u2, -, -⟩ := o (na b i + 3) (hna i hi 3 (by decide))
      obtain ⟨t1, t2, -, -⟩ := o (na b i + 4) (hna i hi 4 (by decide))
      exact ⟨⟨z1.trans a1, (z3 0).trans a2, (z3 1).trans a3, (z3 2).trans a4⟩, ⟨(z4 3 (hne 0 _)).trans b1, (z4 4 (hne 0 _)).trans b2, (z4 5 (hne 0 _)).trans b3, (z4 6 (hne 0 _)).trans b4, (z4 7 (hne 0 _)).trans b5, (z4 8 (hne 0 _)).trans b6⟩, ⟨x1.trans d1, x2.trans d2, w1.trans d3, w2.trans d4, u1.trans d5, u2.trans d6, t1.trans d7, t2.trans d8⟩⟩
  have hlog : LogAt b n Y (b + 1) (fun _ _ => 0) 0 := ⟨hFx.2.1.1, b + 2, hFx.2.1.2.1, hFx.2.1.2.2.1, hFx.2.1.2.2.2, fun k hk => absurd hk (Nat.not_lt_zero _), Or.inl rfl⟩
  refine ⟨nZ, ⟨hFx, ⟨fun l l' hl => absurd hl (Nat.not_lt_zero _), fun l _ _ => ?_⟩, fun l hl => absurd hl (Nat.not_lt_zero _), fun i hi => ?_, fun i j hi hj => ⟨fun _ => ?_, fun z => absurd rfl z⟩, fun i j hi hj => ⟨fun _ => ?_, fun z => absurd rfl z⟩, fun i j hi hj => ⟨rfl, fun _ => vc _⟩, by rw [hnx]; exact Nat.le_refl _, fun a ha1 ha2 => ?_⟩, ⟨km, ?_, ?_, fun k hk => ?_, hnf⟩, cM_ext (fun a j => ?_), sM_ext ?_ ?_ (fun a j g1 g2 => zin a j g1 g2), Ij_0⟩
  · rw [(o (b + 4) (by omega)).2.2.2 l (by omega)]; exact (i5.2.2.2.2 l).2
  · refine ⟨b + 1, ?_, hlog.to rfl (fun k hk => absurd hk (Nat.not_lt_zero _))⟩
    rw [(o (na b i) (hna i hi 0 (by decide))).2.2.2 12 (by unfold na; omega)]
    exact (i7 i hi).2.2.2.1
  · rw [(o (na b i + 2) (hna i hi 2 (by decide))).2.2.2 j (by unfold na; omega)]
    exact ((i7 i hi).2.2.2.2.2 j).2.1
  · rw [(o (na b i + 3) (hna i hi 3 (by decide))).2.2.2 j (by unfold na; omega)]
    exact ((i7 i hi).2.2.2.2.2 j).2.2
  · by_cases hm : a = b + 7 + 5 * n
    · subst hm; rw [km]; decide
    · have := y5 (a - (b + 7 + 5 * n + 1)) (by omega)
      rw [show b + 7 + 5 * n + 1 + (a - (b + 7 + 5 * n + 1)) = a by omega] at this
      rw [this.1]
      exact hreg _ (by omega)
  · rw [vm0]; rfl
  · rw [vm0]; rfl
  · obtain ⟨r1, r2, r3, r4⟩ := mR_at (b + 7 + 5 * n + 1) hk
    have e : b + 7 + 5 * n + 1 + (ao k - 1) = b + 7 + 5 * n + ao k := by omega
    obtain ⟨u1, u2, -⟩ := y5 (ao k - 1) r3
    rw [e, r2] at u1 u2
    refine ⟨?_, u1, u2⟩
    rw [y3 k, r1, e]; rfl
  · rcases cV_cases b n a with rfl | rfl | ⟨i', r, hi', hr, rfl⟩ | ⟨g1, g2⟩
    · have hz : iv Y (b + 3) j = 0 := by rw [(o (b + 3) (by omega)).2.2.1 j]; exact (i5.2.2.2.2 j).1
      rw [cV_pool, hz]
      split
      · rfl
      · split <;> rfl
    · rw [cV_cut, vc]; split <;> rfl
    · rw [cV_node hi' hr]
      obtain ⟨-, -, -, -, k5, k6⟩ := i7 i' hi'
      by_cases h0 : r = 0
      · subst h0
        rw [if_pos rfl]
        have hz : ∀ k, 3 ≤ k → iv Y (b + 6 + 5 * i' + 0) k = 0 := fun k hk => by
          rw [show b + 6 + 5 * i' + 0 = na b i' from rfl, (o (na b i') (hna i' hi' 0 (by decide))).2.2.1 k]; exact k5 k hk
        have hvm : vm (fun _ _ => 0) (5 * i') n = 0 := by
          have : ∀ q, vm (fun _ _ => 0) (5 * i') q = 0 := fun q => by
            induction q with
            | zero => rfl
            | succ q ih => rw [vm, ih]; rfl
          exact this n
        unfold cN
        rw [hvm]
        by_cases a1 : j = 9
        · rw [if_pos a1, hz j (by omega)]
        rw [if_neg a1]
        by_cases a2 : j = 10
        · rw [if_pos a2, hz j (by omega)]
        rw [if_neg a2]
        by_cases a3 : j = 11
        · rw [if_pos a3, hz j (by omega)]
        rw [if_neg a3]
        by_cases a4 : j = 13
        · rw [if_pos a4, hz j (by omega)]
        rw [if_neg a4]
        by_cases a5 : j = 14
        · rw [if_pos a5, hz j (by omega)]
        rw [if_neg a5]
        by_cases a6 : j = 15
        · rw [if_pos a6, hz j (by omega)]
        rw [if_neg a6]
        by_cases a7 : j = 16
        · rw [if_pos a7, hz j (by omega)]
        rw [if_neg a7]
      · rw [if_neg h0]
        by_cases h4 : r = 4 ∧ j < n
        · rw [if_pos h4, h4.1]
          have : iv Y (na b i' + 4) j = 0 := by rw [(o (na b i' + 4) (hna i' hi' 4 (by decide))).2.2.1 j]; exact (k6 j).1
          exact this.symm
        · rw [if_neg h4]
    · rw [cV_out g1 g2]
  · rw [vm0]; rfl
  · rw [vm0]; rfl
