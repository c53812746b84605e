/-! the class's constructors -/
theorem nx_nw (X : Mem) (k m : Nat) : nx (nw X k m) = nx X + 1 := rfl
theorem nx_wI (X : Mem) (a k v : Nat) : nx (wI X a k v) = nx X := rfl
theorem nx_wR (X : Mem) (a k : Nat) (v : Option Nat) : nx (wR X a k v) = nx X := rfl
theorem kd_nw_n {X : Mem} {k m a : Nat} (h : a ≠ nx X) : kd (nw X k m) a = kd X a := va_up_ne _ _ h
theorem kd_nw_e {X : Mem} {k m a : Nat} (h : a = nx X) : kd (nw X k m) a = k := by rw [h]; exact va_up_self _ _ _
theorem kd_wI (X : Mem) (a k v c : Nat) : kd (wI X a k v) c = kd X c := rfl
theorem kd_wR (X : Mem) (a k : Nat) (v : Option Nat) (c : Nat) : kd (wR X a k v) c = kd X c := rfl
theorem ln_nw_n {X : Mem} {k m a : Nat} (h : a ≠ nx X) : ln (nw X k m) a = ln X a := va_up_ne _ _ h
theorem ln_nw_e {X : Mem} {k m a : Nat} (h : a = nx X) : ln (nw X k m) a = m := by rw [h]; exact va_up_self _ _ _
theorem ln_wI (X : Mem) (a k v c : Nat) : ln (wI X a k v) c = ln X c := rfl
theorem ln_wR (X : Mem) (a k : Nat) (v : Option Nat) (c : Nat) : ln (wR X a k v) c = ln X c := rfl
theorem iv_nw_n {X : Mem} {k m a j : Nat} (h : a ≠ nx X) : iv (nw X k m) a j = iv X a j := by
  show va_up (iv X) (nx X) (fun _ => 0) a j = _
  rw [va_up_ne _ _ h]
theorem iv_nw_e {X : Mem} {k m a j : Nat} (h : a = nx X) : iv (nw X k m) a j = 0 := by
  show va_up (iv X) (nx X) (fun _ => 0) a j = _
  rw [h, va_up_self]
theorem iv_wI_n {X : Mem} {a k v c j : Nat} (h : ¬ (c = a ∧ j = k)) : iv (wI X a k v) c j = iv X c j := up2_ne _ _ h
theorem iv_wI_e {X : Mem} {a k v c j : Nat} (h : c = a ∧ j = k) : iv (wI X a k v) c j = v := by rw [h.1, h.2]; exact up2_self _ _ _ _
theorem iv_wR (X : Mem) (a k : Nat) (v : Option Nat) (c j : Nat) : iv (wR X a k v) c j = iv X c j := rfl
theorem rv_nw_n {X : Mem} {k m a j : Nat} (h : a ≠ nx X) : rv (nw X k m) a j = rv X a j := by
  show va_up (rv X) (nx X) (fun _ => none) a j = _
  rw [va_up_ne _ _ h]
theorem rv_nw_e {X : Mem} {k m a j : Nat} (h : a = nx X) : rv (nw X k m) a j = none := by
  show va_up (rv X) (nx X) (fun _ => none) a j = _
  rw [h, va_up_self]
theorem rv_wI (X : Mem) (a k v c j : Nat) : rv (wI X a k v) c j = rv X c j := rfl
theorem rv_wR_n {X : Mem} {a k : Nat} {v : Option Nat} {c j : Nat} (h : ¬ (c = a ∧ j = k)) : rv (wR X a k v) c j = rv X c j := up2_ne _ _ h
theorem rv_wR_e {X : Mem} {a k : Nat} {v : Option Nat} {c j : Nat} (h : c = a ∧ j = k) : rv (wR X a k v) c j = v := by rw [h.1, h.2]; exact up2_self _ _ _ _
/-- c cells made behind X, the cell q written (R its references, I its ints), all else as it was -/
def NB (X : Mem) (q c : Nat) (R : Nat → Option (Option Nat)) (I : Nat → Option Nat) (L : Nat → Nat × Nat) (Z : Mem) : Prop :=
  nx Z = nx X + c ∧ (∀ a, a < nx X → kd Z a = kd X a ∧ ln Z a = ln X a ∧ (a ≠ q → ∀ j, iv Z a j = iv X a j ∧ rv Z a j = rv X a j)) ∧ (∀ j, rv Z q j = (R j).getD (rv X q j)) ∧ (∀ j, iv Z q j = (I j).getD (iv X q j)) ∧
  ∀ d, d < c → kd Z (nx X + d) = (L d).1 ∧ ln Z (nx X + d) = (L d).2 ∧ ∀ j, iv Z (nx X + d) j = 0 ∧ rv Z (nx X + d) j = none
theorem NB_0 (X : Mem) (q : Nat) (L : Nat → Nat × Nat) : NB X q 0 (fun _ => none) (fun _ => none) L X :=
  ⟨rfl, fun _ _ => ⟨rfl, rfl, fun _ _ => ⟨rfl, rfl⟩⟩, fun _ => rfl, fun _ => rfl, fun d hd => absurd hd (Nat.not_lt_zero _)⟩
theorem NB_wI {X : Mem} {q c : Nat} {R : Nat → Option (Option Nat)} {I : Nat → Option Nat} {L : Nat → Nat × Nat} {Z : Mem} (h : NB X q c R I L Z) (hq : q < nx X) (k v : Nat) : NB X q c R (va_up I k (some v)) L (wI Z q k v) := by
  obtain ⟨h1, h2, h3, h4, h5⟩ := h
  refine ⟨h1, fun a ha => ?_, h3, fun j => ?_, fun d hd => ?_⟩
  · obtain ⟨e1, e2, e3⟩ := h2 a ha
    exact ⟨e1, e2, fun hne j => ⟨(iv_wI_n (fun z => hne z.1)).trans (e3 hne j).1, (e3 hne j).2⟩⟩
  · by_cases hj : j = k
    · subst hj; rw [iv_wI_e ⟨rfl, rfl⟩, va_up_self]; rfl
    · rw [iv_wI_n (fun z => hj z.2), va_up_ne _ _ hj]; exact h4 j
  · obtain ⟨e1, e2, e3⟩ := h5 d hd
    exact ⟨e1, e2, fun j => ⟨(iv_wI_n (by omega)).trans (e3 j).1, (e3 j).2⟩⟩
theorem NB_wR {X : Mem} {q c : Nat} {R : Nat → Option (Option Nat)} {I : Nat → Option Nat} {L : Nat → Nat × Nat} {Z : Mem} (h : NB X q c R I L Z) (hq : q < nx X) (k : Nat) (v : Option Nat) : NB X q c (va_up R k (some v)) I L (wR Z q k v) := by
  obtain ⟨h1, h2, h3, h4, h5⟩ := h
  refine ⟨h1, fun a ha => ?_, fun j => ?_, h4, fun d hd => ?_⟩
  · obtain ⟨e1, e2, e3⟩ := h2 a ha
    exact ⟨e1, e2, fun hne j => ⟨(e3 hne j).1, (rv_wR_n (fun z => hne z.1)).trans (e3 hne j).2⟩⟩
  · by_cases hj : j = k
    · subst hj; rw [rv_wR_e ⟨rfl, rfl⟩, va_up_self]; rfl
    · rw [rv_wR_n (fun z => hj z.2), va_up_ne _ _ hj]; exact h3 j
  · obtain ⟨e1, e2, e3⟩ := h5 d hd
    exact ⟨e1, e2, fun j => ⟨(e3 j).1, (rv_wR_n (by omega)).trans (e3 j).2⟩⟩
theorem NB_nw {X : Mem} {q c : Nat} {R : Nat → Option (Option Nat)} {I : Nat → Option Nat} {L : Nat → Nat × Nat} {Z : Mem} (h : NB X q c R I L Z) (hq : q < nx X) (k m : Nat) : NB X q (c + 1) R I (va_up L c (k, m)) (nw Z k m) := by
  obtain ⟨h1, h2, h3, h4, h5⟩ := h
  refine ⟨by rw [nx_nw, h1]; rfl, fun a ha => ?_, fun j => ?_, fun j => ?_, fun d hd => ?_⟩
  · obtain ⟨e1, e2, e3⟩ := h2 a ha
    exact ⟨(kd_nw_n (by omega)).trans e1, (ln_nw_n (by omega)).trans e2, fun hne j => ⟨(iv_nw_n (by omega)).trans (e3 hne j).1, (rv_nw_n (by omega)).trans (e3 hne j).2⟩⟩
  · rw [rv_nw_n (by omega)]; exact h3 j
  · rw [iv_nw_n (by omega)]; exact h4 j
  · by_cases hdc : d = c
    · subst hdc
      rw [va_up_self]
      exact ⟨kd_nw_e h1.symm, ln_nw_e h1.symm, fun j => ⟨iv_nw_e h1.symm, rv_nw_e h1.symm⟩⟩
    · obtain ⟨e1, e2, e3⟩ := h5 d (by omega)
      rw [va_up_ne _ _ hdc]
      exact ⟨(kd_nw_n (by omega)).trans e1, (ln_nw_n (by omega)).trans e2, fun j => ⟨(iv_nw_n (by omega)).trans (e3 j).1, (rv_nw_n (by omega)).trans (e3 j).2⟩⟩
theorem NB_kd {X : Mem} {q c : Nat} {R : Nat → Option (Option Nat)} {I : Nat → Option Nat} {L : Nat → Nat × Nat} {Z : Mem} (h : NB X q c R I L Z) (hq : q < nx X) {k : Nat} (hk : kd X q = k) : kd Z q = k := (h.2.1 q hq).1.trans hk
/-- what a node's constructor leaves -/
def nR (x pl em : Nat) : Nat → Option (Option Nat) := va_up (va_up (va_up (va_up (va_up (va_up (va_up (fun _ => none) 7 (some (some x))) 3 (some (some pl))) 4 (some (some em))) 12 (some (some em))) 5 (some (some (x + 1)))) 6 (some (some (x + 2)))) 8 (some (some (x + 3)))
def nIi (i n f : Nat) : Nat → Option Nat := va_up (va_up (va_up (fun _ => none) 0 (some i)) 1 (some n)) 2 (some f)
def nL (n : Nat) : Nat → Nat × Nat := va_up (va_up (va_up (va_up (fun _ => (0, 0)) 0 (7, 8)) 1 (9, n)) 2 (9, n)) 3 (7, n)
theorem nR_at (x pl em : Nat) : nR x pl em 3 = some (some pl) ∧ nR x pl em 4 = some (some em) ∧ nR x pl em 5 = some (some (x + 1)) ∧ nR x pl em 6 = some (some (x + 2)) ∧ nR x pl em 7 = some (some x) ∧ nR x pl em 8 = some (some (x + 3)) ∧ nR x pl em 12 = some (some em) := ⟨rfl, rfl, rfl, rfl, rfl, rfl, rfl⟩
theorem nI_at (i n f : Nat) : nIi i n f 0 = some i ∧ nIi i n f 1 = some n ∧ nIi i n f 2 = some f ∧ ∀ j, 3 ≤ j → nIi i n f j = none := by
  refine ⟨rfl, rfl, rfl, fun j hj => ?_⟩
  unfold nIi
  rw [va_up_ne _ _ (by omega), va_up_ne _ _ (by omega), va_up_ne _ _ (by omega)]
theorem nL_at (n : Nat) : nL n 0 = (7, 8) ∧ nL n 1 = (9, n) ∧ nL n 2 = (9, n) ∧ nL n 3 = (7, n) := ⟨rfl, rfl, rfl, rfl⟩
def NDP (X : Mem) (q i n f pl em : Nat) (Y : Mem) : Prop := NB X q 4 (nR (nx X) pl em) (nIi i n f) (nL n) Y
/-- i nodes made -/
def CI (b n f : Nat) (X : Mem) (i : Nat) (Z : Mem) : Prop :=
  nx Z = b + 6 + 5 * i ∧ (∀ a, a < b → kd Z a = kd X a ∧ ln Z a = ln X a ∧ ∀ j, iv Z a j = iv X a j ∧ rv Z a j = rv X a j) ∧
  (kd Z b = 5 ∧ rv Z b 0 = some (b + 3) ∧ rv Z b 1 = some (b + 5)) ∧
  (kd Z (b + 1) = 2 ∧ rv Z (b + 1) 0 = some (b + 2) ∧ kd Z (b + 2) = 7 ∧ ln Z (b + 2) = 0) ∧
  (kd Z (b + 3) = 4 ∧ rv Z (b + 3) 0 = some (b + 4) ∧ kd Z (b + 4) = 9 ∧ ln Z (b + 4) = 240 ∧ ∀ j, iv Z (b + 3) j = 0 ∧ rv Z (b + 4) j = none) ∧
  (kd Z (b + 5) = 10 ∧ ln Z (b + 5) = n ∧ ∀ j, j < i → rv Z (b + 5) j = some (na b j)) ∧
  ∀ u, u < i → (kd Z (na b u) = 3 ∧ iv Z (na b u) 0 = u ∧ iv Z (na b u) 1 = n ∧ iv Z (na b u) 2 = f) ∧
    (rv Z (na b u) 3 = some (b + 3) ∧ rv Z (na b u) 4 = some (b + 1) ∧ rv Z (na b u) 5 = some (na b u + 2) ∧ rv Z (na b u) 6 = some (na b u + 3) ∧ rv Z (na b u) 7 = some (na b u + 1) ∧ rv Z (na b u) 8 = some (na b u + 4)) ∧
    (kd Z (na b u + 1) = 7 ∧ ln Z (na b u + 1) = 8 ∧ kd Z (na b u + 2) = 9 ∧ ln Z (na b u + 2) = n ∧ kd Z (na b u + 3) = 9 ∧ ln Z (na b u + 3) = n ∧ kd Z (na b u + 4) = 7 ∧ ln Z (na b u + 4) = n) ∧
    rv Z (na b u) 12 = some (b + 1) ∧ (∀ j, 3 ≤ j → iv Z (na b u) j = 0) ∧ ∀ j, iv Z (na b u + 4) j = 0 ∧ rv Z (na b u + 2) j = none ∧ rv Z (na b u + 3) j = none
theorem CI_0 {b n f : Nat} {X Z1 Z2 Z3 Z4 Z5 Z6 Z7 Z8 Z9 : Mem} (hn : nx X = b + 1) (hk : kd X b = 5) (h1 : Z1 = nw X 2 0) (h2 : Z2 = nw Z1 7 0) (h3 : Z3 = wR Z2 (b + 1) 0 (some (b + 2))) (h4 : Z4 = nw Z3 4 0) (h5 : Z5 = nw Z4 9 240) (h6 : Z6 = wR Z5 (b + 3) 0 (some (b + 4))) (h7 : Z7 = wR Z6 b 0 (some (b + 3))) (h8 : Z8 = nw Z7 10 n) (h9 : Z9 = wR Z8 b 1 (some (b + 5))) : CI b n f X 0 Z9 := by
  have n1 : nx Z1 = b + 2 := by rw [h1, nx_nw, hn]
  have n2 : nx Z2 = b + 3 := by rw [h2, nx_nw, n1]
  have n3 : nx Z3 = b + 3 := by rw [h3, nx_wR, n2]
  have n4 : nx Z4 = b + 4 := by rw [h4, nx_nw, n3]
  have n5 : nx Z5 = b + 5 := by rw [h5, nx_nw, n4]
  have n6 : nx Z6 = b + 5 := by rw [h6, nx_wR, n5]
  have n7 : nx Z7 = b + 5 := by rw [h7, nx_wR, n6]
  have n8 : nx Z8 = b + 6 := by rw [h8, nx_nw, n7]
  have n9 : nx Z9 = b + 6 := by rw [h9, nx_wR, n8]
  -- the last steps, for a cell below b + 5
  have k9 : ∀ a, a < b + 5 → kd Z9 a = kd Z6 a ∧ ln Z9 a = ln Z6 a ∧ ∀ j, iv Z9 a j = iv Z6 a j ∧ (a ≠ b → rv Z9 a j = rv Z6 a j) := fun a ha => by
    rw [h9, kd_wR, ln_wR, h8, kd_nw_n (by omega), ln_nw_n (by omega), h7, kd_wR, ln_wR]
    refine ⟨rfl, rfl, fun j => ⟨?_, fun hne => ?_⟩⟩
    · rw [iv_wR, iv_nw_n (by rw [← h7]; omega), iv_wR]
    · rw [rv_wR_n (fun z => hne z.1), rv_nw_n (by rw [← h7]; omega), rv_wR_n (fun z => hne z.1)]
  have k6 : ∀ a, a < b + 3 → kd Z6 a = kd Z3 a ∧ ln Z6 a = ln Z3 a ∧ ∀ j, iv Z6 a j = iv Z3 a j ∧ rv Z6 a j = rv Z3 a j := fun a ha => by
    rw [h6, kd_wR, ln_wR, h5, kd_nw_n (by omega), ln_nw_n (by omega), h4, kd_nw_n (by omega), ln_nw_n (by omega)]
    refine ⟨rfl, rfl, fun j => ⟨?_, ?_⟩⟩
    · rw [iv_wR, iv_nw_n (by rw [← h4]; omega), iv_nw_n (by omega)]
    · rw [rv_wR_n (by omega), rv_nw_n (by rw [← h4]; omega), rv_nw_n (by omega)]
  have k3 : ∀ a, a < b + 1 → kd Z3 a = kd X a ∧ ln Z3 a = ln X a ∧ ∀ j, iv Z3 a j = iv X a j ∧ rv Z3 a j = rv X a j := fun a ha => by
    rw [h3, kd_wR, ln_wR, h2, kd_nw_n (by omega), ln_nw_n (by omega), h1, kd_nw_n (by omega), ln_nw_n (by omega)]
    refine ⟨rfl, rfl, fun j => ⟨?_, ?_⟩⟩
    · rw [iv_wR, iv_nw_n (by rw [← h1]; omega), iv_nw_n (by omega)]
    · rw [rv_wR_n (by omega), rv_nw_n (by rw [← h1]; omega), rv_nw_n (by omega)]
  refine ⟨by rw [n9], fun a ha => ?_, ⟨?_, ?_, ?_⟩, ⟨?_, ?_, ?_, ?_⟩, ⟨?_, ?_, ?_, ?_, fun j => ⟨?_, ?_⟩⟩, ⟨?_, ?_, fun j hj => absurd hj (Nat.not_lt_zero _)⟩, fun u hu => absurd hu (Nat.not_lt_zero _)⟩
  · obtain ⟨a1, a2, a3⟩ := k9 a (by omega)
    obtain ⟨b1, b2, b3⟩ := k6 a (by omega)
    obtain ⟨c1, c2, c3⟩ := k3 a (by omega)
    exact ⟨a1.trans (b1.trans c1), a2.trans (b2.trans c2), fun j => ⟨(a3 j).1.trans ((b3 j).1.trans (c3 j).1), ((a3 j).2 (by omega)).trans ((b3 j).2.trans (c3 j).2)⟩⟩
  · rw [(k9 b (by omega)).1, (k6 b (by omega)).1, (k3 b (by omega)).1]; exact hk
  · rw [h9, rv_wR_n (by omega), h8, rv_nw_n (by omega), h7, rv_wR_e ⟨rfl, rfl⟩]
  · rw [h9, rv_wR_e ⟨rfl, rfl⟩]
  · rw [(k9 (b + 1) (by omega)).1, (k6 (b + 1) (by omega)).1, h3, kd_wR, h2, kd_nw_n (by omega), h1, kd_nw_e hn.symm]
  · rw [((k9 (b + 1) (by omega)).2.2 0).2 (by omega), ((k6 (b + 1) (by omega)).2.2 0).2, h3, rv_wR_e ⟨rfl, rfl⟩]
  · rw [(k9 (b + 2) (by omega)).1, (k6 (b + 2) (by omega)).1, h3, kd_wR, h2, kd_nw_e n1.symm]
  · rw [(k9 (b + 2) (by omega)).2.1, (k6 (b + 2) (by omega)).2.1, h3, ln_wR, h2, ln_nw_e n1.symm]
  · rw [(k9 (b + 3) (by omega)).1, h6, kd_wR, h5, kd_nw_n (by omega), h4, kd_nw_e n3.symm]
  · rw [((k9 (b + 3) (by omega)).2.2 0).2 (by omega), h6, rv_wR_e ⟨rfl, rfl⟩]
  · rw [(k9 (b + 4) (by omega)).1, h6, kd_wR, h5, kd_nw_e n4.symm]
  · rw [(k9 (b + 4) (by omega)).2.1, h6, ln_wR, h5, ln_nw_e n4.symm]
  · rw [((k9 (b + 3) (by omega)).2.2 j).1, h6, iv_wR, h5, iv_nw_n (by omega), h4, iv_nw_e n3.symm]
  · rw [((k9 (b + 4) (by omega)).2.2 j).2 (by omega), h6, rv_wR_n (by omega), h5, rv_nw_e n4.symm]
  · rw [h9, kd_wR, h8, kd_nw_e n7.symm]
  · rw [h9, ln_wR, h8, ln_nw_e n7.symm]
theorem CI_s {b n f i : Nat} {X Z Z1 Y : Mem} (h : CI b n f X i Z) (hZ1 : Z1 = nw Z 3 0) (hY : NDP Z1 (nx Z) i n f (b + 3) (b + 1) Y) : CI b n f X (i + 1) (wR Y (b + 5) i (some (nx Z))) := by
  obtain ⟨h1, h2, h3, h4, h5, h6, h7⟩ := h
  have n0 : nx Z1 = nx Z + 1 := by rw [hZ1, nx_nw]
  obtain ⟨n1, m2, m3, m4, m5⟩ := hY
  have o : ∀ a, a < nx Z → kd (wR Y (b + 5) i (some (nx Z))) a = kd Z a ∧ ln (wR Y (b + 5) i (some (nx Z))) a = ln Z a ∧ (∀ j, iv (wR Y (b + 5) i (some (nx Z))) a j = iv Z a j) ∧ ∀ j, ¬ (a = b + 5 ∧ j = i) → rv (wR Y (b + 5) i (some (nx Z))) a j = rv Z a j := fun a ha => by
    obtain ⟨e1, e2, e3⟩ := m2 a (by omega)
    refine ⟨?_, ?_, fun j => ?_, fun j hj => ?_⟩
    · rw [kd_wR, e1, hZ1, kd_nw_n (by omega)]
    · rw [ln_wR, e2, hZ1, ln_nw_n (by omega)]
    · rw [iv_wR, (e3 (by omega) j).1, hZ1, iv_nw_n (by omega)]
    · rw [rv_wR_n hj, (e3 (by omega) j).2, hZ1, rv_nw_n (by omega)]
  obtain ⟨p3, p4, p5, p6, p7, p8, p12⟩ := nR_at (nx Z1) (b + 3) (b + 1)
  obtain ⟨q0, q1, q2, q3⟩ := nI_at i n f
  obtain ⟨l0, l1, l2, l3⟩ := nL_at n
  have s1 : iv Y (nx Z) 0 = i := by rw [m4, q0]; rfl
  have s2 : iv Y (nx Z) 1 = n := by rw [m4, q1]; rfl
  have s3 : iv Y (nx Z) 2 = f := by rw [m4, q2]; rfl
  have s4 : ∀ j, 3 ≤ j → iv Y (nx Z) j = 0 := fun j hj => by rw [m4, q3 j hj, hZ1]; exact iv_nw_e rfl
  have s5 : rv Y (nx Z) 3 = some (b + 3) := by rw [m3, p3]; rfl
  have s6 : rv Y (nx Z) 4 = some (b + 1) := by rw [m3, p4]; rfl
  have s7 : rv Y (nx Z) 5 = some (nx Z1 + 1) := by rw [m3, p5]; rfl
  have s8 : rv Y (nx Z) 6 = some (nx Z1 + 2) := by rw [m3, p6]; rfl
  have s9 : rv Y (nx Z) 7 = some (nx Z1) := by rw [m3, p7]; rfl
  have s10 : rv Y (nx Z) 8 = some (nx Z1 + 3) := by rw [m3, p8]; rfl
  have s11 : rv Y (nx Z) 12 = some (b + 1) := by rw [m3, p12]; rfl
  obtain ⟨n2, n3, n4⟩ := m5 0 (by omega)
  obtain ⟨n5, n6, n7⟩ := m5 1 (by omega)
  obtain ⟨n8, n9, n10⟩ := m5 2 (by omega)
  obtain ⟨n11, n12, n13⟩ := m5 3 (by omega)
  rw [l0] at n2 n3
  rw [l1] at n5 n6
  rw [l2] at n8 n9
  rw [l3] at n11 n12
  have hkY : kd Y (nx Z) = 3 := by rw [(m2 (nx Z) (by omega)).1, hZ1]; exact kd_nw_e rfl
  have enx : nx Z1 = na b i + 1 := by unfold na; omega
  have eqz : nx Z = na b i := h1
  refine ⟨by rw [nx_wR, n1, enx]; unfold na; omega, fun a ha => ?_, ⟨?_, ?_, ?_⟩, ⟨?_, ?_, ?_, ?_⟩, ⟨?_, ?_, ?_, ?_, fun j => ⟨?_, ?_⟩⟩, ⟨?_, ?_, fun j hj => ?_⟩, fun u hu => ?_⟩
  · obtain ⟨e1, e2, e3, e4⟩ := o a (by omega)
    obtain ⟨d1, d2, d3⟩ := h2 a ha
    exact ⟨e1.trans d1, e2.trans d2, fun j => ⟨(e3 j).trans (d3 j).1, (e4 j (by omega)).trans (d3 j).2⟩⟩
  · rw [(o b (by omega)).1]; exact h3.1
  · rw [(o b (by omega)).2.2.2 0 (by omega)]; exact h3.2.1
  · rw [(o b (by omega)).2.2.2 1 (by omega)]; exact h3.2.2
  · rw [(o (b + 1) (by omega)).1]; exact h4.1
  · rw [(o (b + 1) (by omega)).2.2.2 0 (by omega)]; exact h4.2.1
  · rw [(o (b + 2) (by omega)).1]; exact h4.2.2.1
  · rw [(o (b + 2) (by omega)).2.1]; exact h4.2.2.2
  · rw [(o (b + 3) (by omega)).1]; exact h5.1
  · rw [(o (b + 3) (by omega)).2.2.2 0 (by omega)]; exact h5.2.1
  · rw [(o (b + 4) (by omega)).1]; exact h5.2.2.1
  · rw [(o (b + 4) (by omega)).2.1]; exact h5.2.2.2.1
  · rw [(o (b + 3) (by omega)).2.2.1 j]; exact (h5.2.2.2.2 j).1
  · rw [(o (b + 4) (by omega)).2.2.2 j (by omega)]; exact (h5.2.2.2.2 j).2
  · rw [(o (b + 5) (by omega)).1]; exact h6.1
  · rw [(o (b + 5) (by omega)).2.1]; exact h6.2.1
  · by_cases hji : j = i
    · subst hji; rw [rv_wR_e ⟨rfl, rfl⟩, eqz]
    · rw [(o (b + 5) (by omega)).2.2.2 j (by omega)]; exact h6.2.2 j (by omega)
  · by_cases hui : u = i
    · subst hui
      rw [eqz] at s1 s2 s3 s4 s5 s6 s7 s8 s9 s10 s11 hkY ⊢
      rw [enx] at s7 s8 s9 s10 n2 n3 n4 n5 n6 n7 n8 n9 n10 n11 n12 n13
      have hne : ∀ d j, ¬ (na b u + d = b + 5 ∧ j = u) := fun d j => by unfold na; omega
      refine ⟨⟨hkY, s1, s2, s3⟩, ⟨?_, ?_, ?_, ?_, ?_, ?_⟩, ⟨n2, n3, n5, n6, n8, n9, n11, n12⟩, ?_, s4, fun j => ⟨(n13 j).1, ?_, ?_⟩⟩
      · exact (rv_wR_n (hne 0 _)).trans s5
      · exact (rv_wR_n (hne 0 _)).trans s6
      · exact (rv_wR_n (hne 0 _)).trans s7
      · exact (rv_wR_n (hne 0 _)).trans s8
      · exact (rv_wR_n (hne 0 _)).trans s9
      · exact (rv_wR_n (hne 0 _)).trans s10
      · exact (rv_wR_n (hne 0 _)).trans s11
      · rw [rv_wR_n (hne 2 _)]; exact (n7 j).2
      · rw [rv_wR_n (hne 3 _)]; exact (n10 j).2
    · obtain ⟨⟨a1, a2, a3, a4⟩, ⟨b1, b2, b3, b4, b5, b6⟩, ⟨c1, c2, c3, c4, c5, c6, c7, c8⟩, d1, d2, d3⟩ := h7 u (by omega)
      have hlt : ∀ d, d < 5 → na b u + d < nx Z := fun d hd => by unfold na; omega
      have hne : ∀ d j, ¬ (na b u + d = b + 5 ∧ j = i) := fun d j => by unfold na; omega
      obtain ⟨z1, z2, z3, z4⟩ := o (na b u) (hlt 0 (by omega))
      obtain ⟨y1, y2, y3, y4⟩ := o (na b u + 1) (hlt 1 (by omega))
      obtain ⟨x1, x2, x3, x4⟩ := o (na b u + 2) (hlt 2 (by omega))
      obtain ⟨w1, w2, w3, w4⟩ := o (na b u + 3) (hlt 3 (by omega))
      obtain ⟨v1, v2, v3, v4⟩ := o (na b u + 4) (hlt 4 (by omega))
      exact ⟨⟨z1.trans a1, (z3 0).trans a2, (z3 1).trans a3, (z3 2).trans a4⟩, ⟨(z4 3 (hne 0 _)).trans b1, (z4 4 (hne 0 _)).trans b2, (z4 5 (hne 0 _)).trans b3, (z4 6 (hne 0 _)).trans b4, (z4 7 (hne 0 _)).trans b5, (z4 8 (hne 0 _)).trans b6⟩, ⟨y1.trans c1, y2.trans c2, x1.trans c3, x2.trans c4, w1.trans c5, w2.trans c6, v1.trans c7, v2.trans c8⟩, (z4 12 (hne 0 _)).trans d1, fun j hj => (z3 j).trans (d2 j hj), fun j => ⟨(v3 j).trans (d3 j).1, (x4 j (hne 2 _)).trans (d3 j).2.1, (w4 j (hne 3 _)).trans (d3 j).2.2⟩⟩
/-- the class's object as it is when it is new -/
def CF (b n f : Nat) (X Z : Mem) : Prop := ∃ Z0, CI b n f X n Z0 ∧ Z = wR (nw Z0 8 (n * n)) b 2 (some (nx Z0))
