/-! THE CLASS'S MEMORY AGAINST THE REFERENCE'S. b: the address of the ViewStamps object; its fixed cells lie at b .. b + 6 + 5 n, the reference's behind them up to he -/
def na (b i : Nat) : Nat := b + 6 + 5 * i
def he (b n : Nat) : Nat := b + 30 + 5 * n
/-- what never changes -/
def Fx (b n f : Nat) (X : Mem) : Prop :=
  (kd X b = 5 ∧ rv X b 0 = some (b + 3) ∧ rv X b 1 = some (b + 5) ∧ rv X b 2 = some (b + 6 + 5 * n)) ∧
  (kd X (b + 1) = 2 ∧ rv X (b + 1) 0 = some (b + 2) ∧ kd X (b + 2) = 7 ∧ ln X (b + 2) = 0) ∧
  (kd X (b + 3) = 4 ∧ rv X (b + 3) 0 = some (b + 4) ∧ kd X (b + 4) = 9 ∧ ln X (b + 4) = 240) ∧
  (kd X (b + 5) = 10 ∧ ln X (b + 5) = n ∧ ∀ i, i < n → rv X (b + 5) i = some (na b i)) ∧
  (kd X (b + 6 + 5 * n) = 8 ∧ ln X (b + 6 + 5 * n) = n * n) ∧
  (∀ i, i < n → (kd X (na b i) = 3 ∧ iv X (na b i) 0 = i ∧ iv X (na b i) 1 = n ∧ iv X (na b i) 2 = f) ∧
    (rv X (na b i) 3 = some (b + 3) ∧ rv X (na b i) 4 = some (b + 1) ∧ rv X (na b i) 5 = some (na b i + 2) ∧ rv X (na b i) 6 = some (na b i + 3) ∧ rv X (na b i) 7 = some (na b i + 1) ∧ rv X (na b i) 8 = some (na b i + 4)) ∧
    (kd X (na b i + 1) = 7 ∧ ln X (na b i + 1) = 8 ∧ kd X (na b i + 2) = 9 ∧ ln X (na b i + 2) = n ∧ kd X (na b i + 3) = 9 ∧ ln X (na b i + 3) = n ∧ kd X (na b i + 4) = 7 ∧ ln X (na b i + 4) = n)) ∧
  ((n = 3 ∧ f = 1) ∨ (n = 5 ∧ f = 2))
/-- what every step keeps: shapes, logs, letters but for their last field, the reference's cells -/
def go (b n : Nat) (X Y : Mem) : Prop :=
  nx X ≤ nx Y ∧ (∀ a, kd X a ≠ 0 → kd Y a = kd X a ∧ ln Y a = ln X a) ∧
  (∀ a, kd X a = 2 → rv Y a 0 = rv X a 0) ∧
  (∀ a, kd X a = 7 → (a = b + 2 ∨ he b n ≤ a) → iv Y a = iv X a) ∧
  (∀ a, kd X a = 1 → rv Y a 6 = rv X a 6 ∧ ∀ k, k ≠ 7 → iv Y a k = iv X a k) ∧
  (∀ a, b + 7 + 5 * n ≤ a → a < he b n → iv Y a = iv X a ∧ rv Y a = rv X a)
theorem go_rf (b n : Nat) (X : Mem) : go b n X X := ⟨Nat.le_refl _, fun _ _ => ⟨rfl, rfl⟩, fun _ _ => rfl, fun _ _ _ => rfl, fun _ _ => ⟨rfl, fun _ _ => rfl⟩, fun _ _ _ => ⟨rfl, rfl⟩⟩
theorem go_tr {b n : Nat} {X Y Z : Mem} (h : go b n X Y) (k : go b n Y Z) : go b n X Z := by
  obtain ⟨h1, h2, h3, h4, h5, h6⟩ := h
  obtain ⟨k1, k2, k3, k4, k5, k6⟩ := k
  refine ⟨Nat.le_trans h1 k1, fun a ha => ?_, fun a ha => ?_, fun a ha hb => ?_, fun a ha => ?_, fun a ha hb => ?_⟩
  · obtain ⟨e1, e2⟩ := h2 a ha
    obtain ⟨e3, e4⟩ := k2 a (by rw [e1]; exact ha)
    exact ⟨e3.trans e1, e4.trans e2⟩
  · have e := (h2 a (by rw [ha]; decide)).1
    rw [k3 a (by rw [e, ha]), h3 a ha]
  · have e := (h2 a (by rw [ha]; decide)).1
    rw [k4 a (by rw [e, ha]) hb, h4 a ha hb]
  · have e := (h2 a (by rw [ha]; decide)).1
    obtain ⟨p1, p2⟩ := h5 a ha
    obtain ⟨p3, p4⟩ := k5 a (by rw [e, ha])
    exact ⟨p3.trans p1, fun k hk => (p4 k hk).trans (p2 k hk)⟩
  · obtain ⟨p1, p2⟩ := h6 a ha hb
    obtain ⟨p3, p4⟩ := k6 a ha hb
    exact ⟨p3.trans p1, p4.trans p2⟩
/-- a log: its entries are those of the reference's slot g -/
def LogAt (b n : Nat) (X : Mem) (lg : Nat) (M : MM) (g : Nat) : Prop :=
  kd X lg = 2 ∧ ∃ c, rv X lg 0 = some c ∧ kd X c = 7 ∧ ln X c = 6 * M 3 g ∧ (∀ k, k < 6 * M 3 g → iv X c k = M 2 (96 * g + k)) ∧ (c = b + 2 ∨ he b n ≤ c)
theorem LogAt.go {b n : Nat} {X Y : Mem} {lg : Nat} {M : MM} {g : Nat} (h : LogAt b n X lg M g) (k : go b n X Y) : LogAt b n Y lg M g := by
  obtain ⟨h1, c, h2, h3, h4, h5, h6⟩ := h
  obtain ⟨-, k2, k3, k4, -, -⟩ := k
  refine ⟨by rw [(k2 lg (by rw [h1]; decide)).1, h1], c, by rw [k3 lg h1, h2], by rw [(k2 c (by rw [h3]; decide)).1, h3], by rw [(k2 c (by rw [h3]; decide)).2, h4], fun q hq => ?_, h6⟩
  rw [k4 c h3 h6]; exact h5 q hq
theorem LogAt.to {b n : Nat} {X : Mem} {lg : Nat} {M M' : MM} {g g' : Nat} (h : LogAt b n X lg M g) (e3 : M' 3 g' = M 3 g) (e2 : ∀ k, k < 6 * M 3 g → M' 2 (96 * g' + k) = M 2 (96 * g + k)) : LogAt b n X lg M' g' := by
  obtain ⟨h1, c, h2, h3, h4, h5, h6⟩ := h
  exact ⟨h1, c, h2, h3, by rw [e3]; exact h4, fun q hq => by rw [e3] at hq; rw [e2 q hq]; exact h5 q hq, h6⟩
/-- the voters' mask -/
def vm (M : MM) (base : Nat) : Nat → Nat
  | 0 => 0
  | j + 1 => vm M base j + (if M 11 (base + j) = 0 then 0 else 2 ^ j)
def Nd (b n : Nat) (X : Mem) (M : MM) (P : Nat → Nat) (i : Nat) : Prop :=
  (iv X (na b i) 9 = M 5 i ∧ iv X (na b i) 10 = M 6 i ∧ iv X (na b i) 11 = M 4 i ∧ iv X (na b i) 13 = M 7 i ∧ iv X (na b i) 14 = P i ∧ iv X (na b i) 15 = vm M (5 * i) n ∧ iv X (na b i) 16 = M 8 i) ∧
  (∃ lg, rv X (na b i) 12 = some lg ∧ LogAt b n X lg M i) ∧ ∀ j, j < n → iv X (na b i + 4) j = M 10 (5 * i + j)
def Vt (b n : Nat) (X : Mem) (M : MM) (i j : Nat) : Prop :=
  (M 12 (5 * i + j) = 0 → rv X (na b i + 2) j = none) ∧ (M 12 (5 * i + j) ≠ 0 → ∃ q lg, rv X (na b i + 2) j = some q ∧ kd X q = 1 ∧ iv X q 4 = M 4 (5 + 5 * i + j) ∧ iv X q 5 = M 13 (5 * i + j) ∧ rv X q 6 = some lg ∧ LogAt b n X lg M (5 + 5 * i + j))
def Tl (b n : Nat) (X : Mem) (M : MM) (i j : Nat) : Prop :=
  (M 14 (5 * i + j) = 0 → rv X (na b i + 3) j = none) ∧ (M 14 (5 * i + j) ≠ 0 → ∃ q lg, rv X (na b i + 3) j = some q ∧ kd X q = 1 ∧ iv X q 3 = M 15 (5 * i + j) ∧ iv X q 4 = M 4 (30 + 5 * i + j) ∧ rv X q 6 = some lg ∧ LogAt b n X lg M (30 + 5 * i + j))
def Lt (b n : Nat) (X : Mem) (M : MM) (l q : Nat) : Prop :=
  (kd X q = 1 ∧ iv X q 0 = M 19 l ∧ iv X q 1 = M 20 l ∧ iv X q 2 = M 21 l ∧ iv X q 3 = M 22 l ∧ iv X q 5 = M 23 l ∧ iv X q 7 = M 24 l) ∧
  ∃ lg, rv X q 6 = some lg ∧ (m_hl (M 21 l) ≠ 0 → iv X q 4 = M 4 (55 + l) ∧ LogAt b n X lg M (55 + l)) ∧ (m_hl (M 21 l) = 0 → iv X q 4 = 0 ∧ lg = b + 1)
def Pl (b : Nat) (X : Mem) (M : MM) : Prop :=
  iv X (b + 3) 1 = M 17 0 ∧ iv X (b + 3) 2 = M 18 0 ∧ (∀ l l', l < M 17 0 → l' < M 17 0 → rv X (b + 4) l = rv X (b + 4) l' → l = l') ∧ ∀ l, M 17 0 ≤ l → l < 240 → rv X (b + 4) l = none
def Cu (b n : Nat) (X : Mem) (M : MM) : Prop := ∀ i j, i < n → j < n → iv X (b + 6 + 5 * n) (i * n + j) = (if i < j then M 16 (5 * i + j) else 0) ∧ M 16 (5 * i + j) = M 16 (5 * j + i)
/-- the class's memory shows what the reference's shows (P: the nonces that the class keeps) -/
def Sim (b n f : Nat) (X : Mem) (M : MM) (P : Nat → Nat) : Prop :=
  Fx b n f X ∧ Pl b X M ∧ (∀ l, l < M 17 0 → ∃ q, rv X (b + 4) l = some q ∧ Lt b n X M l q) ∧ (∀ i, i < n → Nd b n X M P i) ∧ (∀ i j, i < n → j < n → Vt b n X M i j) ∧ (∀ i j, i < n → j < n → Tl b n X M i j) ∧ Cu b n X M
