/-- what never changes -/
def Fx (b n f : Nat) (X : Mem) : Prop :=
  (kd X b = 5 ∧ rv X b 0 = some (b + 3) ∧ rv X b 1 = some (b + 5) ∧ rv X b 2 = some (b + 6 + 5 * n)) ∧
  (kd X (b + 1) = 2 ∧ rv X (b + 1) 0 = some (b + 2) ∧ kd X (b + 2) = 7 ∧ ln X (b + 2) = 0) ∧
  (kd X (b + 3) = 4 ∧ rv X (b + 3) 0 = some (b + 4) ∧ kd X (b + 4) = 9 ∧ ln X (b + 4) = 240) ∧
  (kd X (b + 5) = 10 ∧ ln X (b + 5) = n ∧ ∀ i, i < n → rv X (b + 5) i = some (na b i)) ∧
  (kd X (b + 6 + 5 * n) = 8 ∧ ln X (b + 6 + 5 * n) = n * n) ∧
  (∀ i, i < n → (kd X (na b i) = 3 ∧ iv X (na b i) 0 = i ∧ iv X (na b i) 1 = n ∧ iv X (na b i) 2 = f) ∧
    (rv X (na b i) 3 = some (b + 3) ∧ rv X (na b i) 4 = some (b + 1) ∧ rv X (na b i) 5 = some (na b i + 2) ∧ rv X (na b i) 6 = some (na b i + 3) ∧ rv X (na b i) 7 = some (na b i + 1) ∧ rv X (na b i) 8 = some (na b i + 4)) ∧
    (kd X (na b i + 1) = 7 ∧ ln X (na b i + 1) = 8 ∧ kd X (na b i + 2) = 9 ∧ ln X (na b i + 2) = n ∧ kd X (na b i + 3) = 9 ∧ ln X (na b i + 3) = n ∧ kd X (na b i + 4) = 7 ∧ ln X (na b i + 4) = n)) ∧
  ((n = 3 ∧ f = 1) ∨ (n = 5 ∧ f = 2))
/-- what every step keeps: shapes, logs, letters but for their last field, the reference's cells -/
def go (b n : Nat) (X Y : Mem) : Prop :=
  nx X ≤ nx Y ∧ (∀ a, kd X a ≠ 0 → kd Y a = kd X a ∧ ln Y a = ln X a) ∧
  (∀ a, kd X a = 2 → rv Y a 0 = rv X a 0) ∧
  (∀ a, kd X a = 7 → (a = b + 2 ∨ he b n ≤ a) → iv Y a = iv X a) ∧
  (∀ a, kd X a = 1 → rv Y a 6 = rv X a 6 ∧ ∀ k, k ≠ 7 → iv Y a k = iv X a k) ∧
  (∀ a, b + 7 + 5 * n ≤ a → a < he b n → iv Y a = iv X a ∧ rv Y a = rv X a)
theorem go_rf (b n : Nat) (X : Mem) : go b n X X := ⟨Nat.le_refl _, fun _ _ => ⟨rfl, rfl⟩, fun _ _ => rfl, fun _ _ _ => rfl, fun _ _ => ⟨rfl, fun _ _ => rfl⟩, fun _ _ _ => ⟨rfl, rfl⟩⟩
theorem go_tr {b n : Nat} {X Y Z : Mem} (h : go b n X Y) (k : go b n Y Z) : go b n X Z := by
  obtain ⟨h1, h2, h3, h4, h5, h6⟩ := h
  obtain ⟨k1, k2, k3, k4, k5, k6⟩ := k
  refine ⟨Nat.le_trans h1 k1, fun a ha => ?_, fun a ha => ?_, fun a ha hb => ?_, fun a ha => ?_, fun a ha hb => ?_⟩
  · obtain ⟨e1, e2⟩ := h2 a ha
    obtain ⟨e3, e4⟩ := k2 a (by rw [e1]; exact ha)
    exact ⟨e3.trans e1, e4.trans e2⟩
  · have e := (h2 a (by rw [ha]; decide)).1
    rw [k3 a (by rw [e, ha]), h3 a ha]
  · have e := (h2 a (by rw [ha]; decide)).1
    rw [k4 a (by rw [e, ha]) hb, h4 a ha hb]
  · have e := (h2 a (by rw [ha]; decide)).1
    obtain ⟨p1, p2⟩ := h5 a ha
    obtain ⟨p3, p4⟩ := k5 a (by rw [e, ha])
    exact ⟨p3.trans p1, fun k hk => (p4 k hk).trans (p2 k hk)⟩
  · obtain ⟨p1, p2⟩ := h6 a ha hb
    obtain ⟨p3, p4⟩ := k6 a ha hb
    exact ⟨p3.trans p1, p4.trans p2⟩
/-- a reference of a cell that is no log and no letter, and lies ahead of the reference's cells -/
theorem go_wR {b n : Nat} {X : Mem} {a k : Nat} {v : Option Nat} (h1 : kd X a ≠ 1) (h2 : kd X a ≠ 2) (h3 : a < b + 7 + 5 * n) : go b n X (wR X a k v) := by
  refine ⟨Nat.le_refl _, fun _ _ => ⟨rfl, rfl⟩, fun c hc => ?_, fun _ _ _ => rfl, fun c hc => ⟨?_, fun _ _ => rfl⟩, fun c hc _ => ⟨rfl, ?_⟩⟩
  · exact up2_ne _ _ (fun z => h2 (by rw [← z.1]; exact hc))
  · exact up2_ne _ _ (fun z => h1 (by rw [← z.1]; exact hc))
  · exact up2_row _ _ (by omega)
/-- an int of a fixed cell, or a letter's last field -/
theorem go_wI {b n : Nat} {X : Mem} {a k v : Nat} (h1 : kd X a ≠ 1) (h2 : b + 3 ≤ a) (h3 : a < b + 7 + 5 * n) : go b n X (wI X a k v) := by
  refine ⟨Nat.le_refl _, fun _ _ => ⟨rfl, rfl⟩, fun _ _ => rfl, fun c hc hc2 => ?_, fun c hc => ⟨rfl, fun q hq => ?_⟩, fun c hc _ => ⟨?_, rfl⟩⟩
  · exact up2_row _ _ (by unfold he at hc2; omega)
  · exact up2_ne _ _ (fun z => h1 (by rw [← z.1]; exact hc))
  · exact up2_row _ _ (by omega)
theorem go_w7 {b n : Nat} {X : Mem} {a v : Nat} (h1 : kd X a = 1) (h2 : ∀ c, b + 7 + 5 * n ≤ c → c < he b n → kd X c ≠ 1) : go b n X (wI X a 7 v) := by
  refine ⟨Nat.le_refl _, fun _ _ => ⟨rfl, rfl⟩, fun _ _ => rfl, fun c hc _ => ?_, fun c hc => ⟨rfl, fun q hq => ?_⟩, fun c hc hc2 => ⟨?_, rfl⟩⟩
  · exact up2_row _ _ (fun z => by rw [z, h1] at hc; cases hc)
  · exact up2_ne _ _ (fun z => hq z.2)
  · exact up2_row _ _ (fun z => h2 c hc hc2 (by rw [z]; exact h1))
/-- a new cell, and what is written into it -/
def fr (X Y : Mem) : Prop := nx X ≤ nx Y ∧ ∀ a, a < nx X → kd Y a = kd X a ∧ ln Y a = ln X a ∧ iv Y a = iv X a ∧ rv Y a = rv X a
theorem fr_rf (X : Mem) : fr X X := ⟨Nat.le_refl _, fun _ _ => ⟨rfl, rfl, rfl, rfl⟩⟩
theorem fr_nw {X Y : Mem} (h : fr X Y) (k m : Nat) : fr X (nw Y k m) := by
  refine ⟨Nat.le_trans h.1 (Nat.le_succ _), fun a ha => ?_⟩
  have hne : a ≠ nx Y := by have := h.1; omega
  obtain ⟨e1, e2, e3, e4⟩ := h.2 a ha
  exact ⟨(va_up_ne _ _ hne).trans e1, (va_up_ne _ _ hne).trans e2, (va_up_ne _ _ hne).trans e3, (va_up_ne _ _ hne).trans e4⟩
theorem fr_wI {X Y : Mem} (h : fr X Y) {a k v : Nat} (ha : nx X ≤ a) : fr X (wI Y a k v) := by
  refine ⟨h.1, fun c hc => ?_⟩
  obtain ⟨e1, e2, e3, e4⟩ := h.2 c hc
  exact ⟨e1, e2, (up2_row _ _ (by omega)).trans e3, e4⟩
theorem fr_wR {X Y : Mem} (h : fr X Y) {a k : Nat} {v : Option Nat} (ha : nx X ≤ a) : fr X (wR Y a k v) := by
  refine ⟨h.1, fun c hc => ?_⟩
  obtain ⟨e1, e2, e3, e4⟩ := h.2 c hc
  exact ⟨e1, e2, e3, (up2_row _ _ (by omega)).trans e4⟩
theorem go_fr {b n : Nat} {X Y : Mem} (h : fr X Y) (hl : ∀ a, kd X a ≠ 0 → a < nx X) (hm : he b n ≤ nx X) : go b n X Y := by
  refine ⟨h.1, fun a ha => ?_, fun a ha => ?_, fun a ha _ => ?_, fun a ha => ?_, fun a _ ha => ?_⟩
  · obtain ⟨e1, e2, -⟩ := h.2 a (hl a ha); exact ⟨e1, e2⟩
  · rw [(h.2 a (hl a (by rw [ha]; decide))).2.2.2]
  · exact (h.2 a (hl a (by rw [ha]; decide))).2.2.1
  · obtain ⟨-, -, e3, e4⟩ := h.2 a (hl a (by rw [ha]; decide))
    exact ⟨by rw [e4], fun k _ => by rw [e3]⟩
  · obtain ⟨-, -, e3, e4⟩ := h.2 a (by omega); exact ⟨e3, e4⟩
/-- a log: its entries are those of the reference's slot g -/
def LogAt (b n : Nat) (X : Mem) (lg : Nat) (M : MM) (g : Nat) : Prop :=
  kd X lg = 2 ∧ ∃ c, rv X lg 0 = some c ∧ kd X c = 7 ∧ ln X c = 6 * M 3 g ∧ (∀ k, k < 6 * M 3 g → iv X c k = M 2 (96 * g + k)) ∧ (c = b + 2 ∨ he b n ≤ c)
theorem LogAt.go {b n : Nat} {X Y : Mem} {lg : Nat} {M : MM} {g : Nat} (h : LogAt b n X lg M g) (k : go b n X Y) : LogAt b n Y lg M g := by
  obtain ⟨h1, c, h2, h3, h4, h5, h6⟩ := h
  obtain ⟨-, k2, k3, k4, -, -⟩ := k
  refine ⟨by rw [(k2 lg (by rw [h1]; decide)).1, h1], c, by rw [k3 lg h1, h2], by rw [(k2 c (by rw [h3]; decide)).1, h3], by rw [(k2 c (by rw [h3]; decide)).2, h4], fun q hq => ?_, h6⟩
  rw [k4 c h3 h6]; exact h5 q hq
theorem LogAt.to {b n : Nat} {X : Mem} {lg : Nat} {M M' : MM} {g g' : Nat} (h : LogAt b n X lg M g) (e3 : M' 3 g' = M 3 g) (e2 : ∀ k, k < 6 * M 3 g → M' 2 (96 * g' + k) = M 2 (96 * g + k)) : LogAt b n X lg M' g' := by
  obtain ⟨h1, c, h2, h3, h4, h5, h6⟩ := h
  exact ⟨h1, c, h2, h3, by rw [e3]; exact h4, fun q hq => by rw [e3] at hq; rw [e2 q hq]; exact h5 q hq, h6⟩
def Vt (b n : Nat) (X : Mem) (M : MM) (i j : Nat) : Prop :=
  (M 12 (5 * i + j) = 0 → rv X (na b i + 2) j = none) ∧ (M 12 (5 * i + j) ≠ 0 → ∃ q lg, rv X (na b i + 2) j = some q ∧ kd X q = 1 ∧ iv X q 4 = M 4 (5 + 5 * i + j) ∧ iv X q 5 = M 13 (5 * i + j) ∧ rv X q 6 = some lg ∧ LogAt b n X lg M (5 + 5 * i + j))
def Tl (b n : Nat) (X : Mem) (M : MM) (i j : Nat) : Prop :=
  (M 14 (5 * i + j) = 0 → rv X (na b i + 3) j = none) ∧ (M 14 (5 * i + j) ≠ 0 → ∃ q lg, rv X (na b i + 3) j = some q ∧ kd X q = 1 ∧ iv X q 3 = M 15 (5 * i + j) ∧ iv X q 4 = M 4 (30 + 5 * i + j) ∧ rv X q 6 = some lg ∧ LogAt b n X lg M (30 + 5 * i + j))
def Lt (b n : Nat) (X : Mem) (M : MM) (l q : Nat) : Prop :=
  (kd X q = 1 ∧ iv X q 0 = M 19 l ∧ iv X q 1 = M 20 l ∧ iv X q 2 = M 21 l ∧ iv X q 3 = M 22 l ∧ iv X q 5 = M 23 l ∧ iv X q 7 = M 24 l) ∧
  ∃ lg, rv X q 6 = some lg ∧ (m_hl (M 21 l) ≠ 0 → iv X q 4 = M 4 (55 + l) ∧ LogAt b n X lg M (55 + l)) ∧ (m_hl (M 21 l) = 0 → iv X q 4 = 0 ∧ lg = b + 1)
def Ps (b : Nat) (X : Mem) (M : MM) : Prop := (∀ l l', l < M 17 0 → l' < M 17 0 → rv X (b + 4) l = rv X (b + 4) l' → l = l') ∧ ∀ l, M 17 0 ≤ l → l < 240 → rv X (b + 4) l = none
def Cu (b n : Nat) (X : Mem) (M : MM) : Prop := ∀ i j, i < n → j < n → M 16 (5 * i + j) = M 16 (5 * j + i) ∧ (j ≤ i → iv X (b + 6 + 5 * n) (i * n + j) = 0)
/-- the references, letters and logs of the class against the reference's memory -/
def Sd (b n f : Nat) (X : Mem) (M : MM) : Prop :=
  Fx b n f X ∧ Ps b X M ∧ (∀ l, l < M 17 0 → ∃ q, rv X (b + 4) l = some q ∧ Lt b n X M l q) ∧ (∀ i, i < n → ∃ lg, rv X (na b i) 12 = some lg ∧ LogAt b n X lg M i) ∧ (∀ i j, i < n → j < n → Vt b n X M i j) ∧ (∀ i j, i < n → j < n → Tl b n X M i j) ∧ Cu b n X M ∧ he b n ≤ nx X ∧ (∀ a, b + 7 + 5 * n ≤ a → a < he b n → kd X a ≠ 1 ∧ kd X a ≠ 2 ∧ kd X a ≠ 0)
theorem Vt.go {b n : Nat} {X Y : Mem} {M : MM} {i j : Nat} (h : Vt b n X M i j) (k : go b n X Y) (hr : rv Y (na b i + 2) j = rv X (na b i + 2) j) : Vt b n Y M i j := by
  refine ⟨fun e => by rw [hr]; exact h.1 e, fun e => ?_⟩
  obtain ⟨q, lg, h1, h2, h3, h4, h5, h6⟩ := h.2 e
  obtain ⟨k1, k2⟩ := k.2.2.2.2.1 q h2
  exact ⟨q, lg, by rw [hr]; exact h1, by rw [(k.2.1 q (by rw [h2]; decide)).1]; exact h2, by rw [k2 4 (by decide)]; exact h3, by rw [k2 5 (by decide)]; exact h4, by rw [k1]; exact h5, h6.go k⟩
theorem Tl.go {b n : Nat} {X Y : Mem} {M : MM} {i j : Nat} (h : Tl b n X M i j) (k : go b n X Y) (hr : rv Y (na b i + 3) j = rv X (na b i + 3) j) : Tl b n Y M i j := by
  refine ⟨fun e => by rw [hr]; exact h.1 e, fun e => ?_⟩
  obtain ⟨q, lg, h1, h2, h3, h4, h5, h6⟩ := h.2 e
  obtain ⟨k1, k2⟩ := k.2.2.2.2.1 q h2
  exact ⟨q, lg, by rw [hr]; exact h1, by rw [(k.2.1 q (by rw [h2]; decide)).1]; exact h2, by rw [k2 3 (by decide)]; exact h3, by rw [k2 4 (by decide)]; exact h4, by rw [k1]; exact h5, h6.go k⟩
theorem Lt.go {b n : Nat} {X Y : Mem} {M : MM} {l q : Nat} (h : Lt b n X M l q) (k : go b n X Y) (h7 : iv Y q 7 = iv X q 7) : Lt b n Y M l q := by
  obtain ⟨⟨a1, a2, a3, a4, a5, a6, a7⟩, lg, h1, h2, h3⟩ := h
  obtain ⟨k1, k2⟩ := k.2.2.2.2.1 q a1
  exact ⟨⟨by rw [(k.2.1 q (by rw [a1]; decide)).1]; exact a1, by rw [k2 0 (by decide)]; exact a2, by rw [k2 1 (by decide)]; exact a3, by rw [k2 2 (by decide)]; exact a4, by rw [k2 3 (by decide)]; exact a5, by rw [k2 5 (by decide)]; exact a6, by rw [h7]; exact a7⟩, lg, by rw [k1]; exact h1, fun e => ⟨by rw [k2 4 (by decide)]; exact (h2 e).1, (h2 e).2.go k⟩, fun e => ⟨by rw [k2 4 (by decide)]; exact (h3 e).1, (h3 e).2⟩⟩
theorem Fx.go {b n f : Nat} {X Y : Mem} (h : Fx b n f X) (k : go b n X Y) (hr : ∀ a, a = b ∨ a = b + 3 ∨ a = b + 5 → rv Y a = rv X a) (hn : ∀ i, i < n → iv Y (na b i) 0 = iv X (na b i) 0 ∧ iv Y (na b i) 1 = iv X (na b i) 1 ∧ iv Y (na b i) 2 = iv X (na b i) 2 ∧ ∀ q, 3 ≤ q → q ≤ 8 → rv Y (na b i) q = rv X (na b i) q) : Fx b n f Y := by
  obtain ⟨⟨a1, a2, a3, a4⟩, ⟨b1, b2, b3, b4⟩, ⟨c1, c2, c3, c4⟩, ⟨d1, d2, d3⟩, ⟨e1, e2⟩, g, hh⟩ := h
  have K : ∀ a m, kd X a = m → m ≠ 0 → kd Y a = m := fun a m e z => by rw [(k.2.1 a (by rw [e]; exact z)).1, e]
  have L : ∀ a m, kd X a ≠ 0 → ln X a = m → ln Y a = m := fun a m e z => by rw [(k.2.1 a e).2, z]
  refine ⟨⟨K _ _ a1 (by decide), by rw [hr b (by omega)]; exact a2, by rw [hr b (by omega)]; exact a3, by rw [hr b (by omega)]; exact a4⟩, ⟨K _ _ b1 (by decide), by rw [k.2.2.1 _ b1]; exact b2, K _ _ b3 (by decide), L _ _ (by rw [b3]; decide) b4⟩, ⟨K _ _ c1 (by decide), by rw [hr (b + 3) (by omega)]; exact c2, K _ _ c3 (by decide), L _ _ (by rw [c3]; decide) c4⟩, ⟨K _ _ d1 (by decide), L _ _ (by rw [d1]; decide) d2, fun i hi => by rw [hr (b + 5) (by omega)]; exact d3 i hi⟩, ⟨K _ _ e1 (by decide), L _ _ (by rw [e1]; decide) e2⟩, fun i hi => ?_, hh⟩
  obtain ⟨⟨g1, g2, g3, g4⟩, ⟨g5, g6, g7, g8, g9, g10⟩, ⟨g11, g12, g13, g14, g15, g16, g17, g18⟩⟩ := g i hi
  obtain ⟨i0, i1, i2, ir⟩ := hn i hi
  exact ⟨⟨K _ _ g1 (by decide), by rw [i0]; exact g2, by rw [i1]; exact g3, by rw [i2]; exact g4⟩, ⟨by rw [ir 3 (by decide) (by decide)]; exact g5, by rw [ir 4 (by decide) (by decide)]; exact g6, by rw [ir 5 (by decide) (by decide)]; exact g7, by rw [ir 6 (by decide) (by decide)]; exact g8, by rw [ir 7 (by decide) (by decide)]; exact g9, by rw [ir 8 (by decide) (by decide)]; exact g10⟩, ⟨K _ _ g11 (by decide), L _ _ (by rw [g11]; decide) g12, K _ _ g13 (by decide), L _ _ (by rw [g13]; decide) g14, K _ _ g15 (by decide), L _ _ (by rw [g15]; decide) g16, K _ _ g17 (by decide), L _ _ (by rw [g17]; decide) g18⟩⟩
