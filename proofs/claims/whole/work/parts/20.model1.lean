def m_in (v lo hi : Int32) : Nat := if v < lo then 0 else if hi < v then 0 else 1
def m_les (a b : Nat) : Nat := if a < b then a else b
def m_gre (a b : Nat) : Nat := if b < a then a else b
def m_hl (k : Nat) : Nat := if k = 1 then 1 else if k = 4 then 1 else if k = 5 then 1 else if k = 7 then 1 else 0
def m_isNode (n : Nat) (i : Int32) : Nat := m_in i (nI 0) (nI (n - 1))
def m_fst (n : Nat) (M : MM) (i : Nat) : Nat := if M 6 i % n = i then 1 else 0
theorem m_in_le (v lo hi : Int32) : m_in v lo hi ≤ 1 := by unfold m_in; split <;> (try split) <;> decide
theorem m_hl_le (k : Nat) : m_hl k ≤ 1 := by unfold m_hl; split <;> (try split) <;> (try split) <;> (try split) <;> decide
theorem m_fst_le (n : Nat) (M : MM) (i : Nat) : m_fst n M i ≤ 1 := by unfold m_fst; split <;> decide
theorem m_les_le (a b : Nat) : m_les a b ≤ a ∧ m_les a b ≤ b := by unfold m_les; split <;> omega
theorem m_gre_le {a b c : Nat} (h1 : a < c) (h2 : b < c) : m_gre a b < c := by unfold m_gre; split <;> omega

abbrev rmX5_in : Room := { frames := 0, cells := 0, slots := 0, locals := 0 }
set_option maxHeartbeats 4000000 in
set_option maxRecDepth 100000 in
theorem k_X5_in (l : Launch) (D : va_G) (cA : Nat → ClassId) (A : Nat → Prop) (X : Mem) (a b c0 : Int32) : mt l D cA A yX5_in wsX5_in rmX5_in [.int a, .int b, .int c0] (X) (fun v Y => v = some (.int (nI (m_in a b c0))) ∧ Y = X) := by
  refine q_start (by decide) rfl (Nat.le_of_ble_eq_true rfl) (fun p e s m args below meth c H locs hC hr hlk hnm hG ls hl => ?_)
  have hl : lv_has ls 3 [(0, .int a), (1, .int b), (2, .int c0)] := hl
  have hx := hC.1.1
  have hb := hC.1.2.1
  have hts := hC.1.2.2.2.2
  refine lv_iload_n hx hb dX5_in_0 rfl (lv_at hl 0 rfl) ?_
  refine lv_iload_n hx hb dX5_in_1 rfl (lv_at hl 1 rfl) ?_
  refine lv_icmp_lt (tgt := 14) hx hb dX5_in_2 (by decide) (fun c2 => ?_) (fun c2 => ?_)
  · refine n_iconst hC 0 dX5_in_14 ?_
    exact q_zret (v := 0) hC hG hr hlk (by first | decide | omega) (⟨by simp [m_in, c2], rfl⟩) dX5_in_15
  · refine lv_iload_n hx hb dX5_in_5 rfl (lv_at hl 0 rfl) ?_
    refine lv_iload_n hx hb dX5_in_6 rfl (lv_at hl 2 rfl) ?_
    refine lv_icmp_gt (tgt := 14) hx hb dX5_in_7 (by decide) (fun c7 => ?_) (fun c7 => ?_)
    · refine n_iconst hC 0 dX5_in_14 ?_
      exact q_zret (v := 0) hC hG hr hlk (by first | decide | omega) (⟨by simp [m_in, c2, c7], rfl⟩) dX5_in_15
    · refine n_iconst hC 1 dX5_in_10 ?_
      refine lv_goto (tgt := 15) hx hb dX5_in_11 (by decide) ?_
      exact q_zret (v := 1) hC hG hr hlk (by first | decide | omega) (⟨by simp [m_in, c2, c7], rfl⟩) dX5_in_15

abbrev rmX5_lesser : Room := { frames := 0, cells := 0, slots := 0, locals := 0 }
set_option maxHeartbeats 4000000 in
set_option maxRecDepth 100000 in
theorem k_X5_lesser (l : Launch) (D : va_G) (cA : Nat → ClassId) (A : Nat → Prop) (X : Mem) (a b : Nat) (ha : a < 2147483648) (hb0 : b < 2147483648) : mt l D cA A yX5_lesser wsX5_lesser rmX5_lesser [.int (nI a), .int (nI b)] (X) (fun v Y => v = some (.int (nI (m_les a b))) ∧ Y = X) := by
  refine q_start (by decide) rfl (Nat.le_of_ble_eq_true rfl) (fun p e s m args below meth c H locs hC hr hlk hnm hG ls hl => ?_)
  have hl : lv_has ls 2 [(0, .int (nI a)), (1, .int (nI b))] := hl
  have hx := hC.1.1
  have hb := hC.1.2.1
  have hts := hC.1.2.2.2.2
  refine lv_iload_n hx hb dX5_lesser_0 rfl (lv_at hl 0 rfl) ?_
  refine lv_iload_n hx hb dX5_lesser_1 rfl (lv_at hl 1 rfl) ?_
  refine n_ge (tgt := 9) hC dX5_lesser_2 (by decide) (by omega) (by omega) (fun c2 => ?_) (fun c2 => ?_)
  · have c2n := Nat.not_lt.mpr c2
    refine lv_iload_n hx hb dX5_lesser_9 rfl (lv_at hl 1 rfl) ?_
    exact q_iret (v := (nI b)) hC hG hr hlk (⟨by simp only [m_les, c2, c2n, ↓reduceIte], rfl⟩) dX5_lesser_10
  · have c2n := Nat.not_le.mpr c2
    refine lv_iload_n hx hb dX5_lesser_5 rfl (lv_at hl 0 rfl) ?_
    refine lv_goto (tgt := 10) hx hb dX5_lesser_6 (by decide) ?_
    exact q_iret (v := (nI a)) hC hG hr hlk (⟨by simp only [m_les, c2, c2n, ↓reduceIte], rfl⟩) dX5_lesser_10

abbrev rmX5_greater : Room := { frames := 0, cells := 0, slots := 0, locals := 0 }
set_option maxHeartbeats 4000000 in
set_option maxRecDepth 100000 in
theorem k_X5_greater (l : Launch) (D : va_G) (cA : Nat → ClassId) (A : Nat → Prop) (X : Mem) (a b : Nat) (ha : a < 2147483648) (hb0 : b < 2147483648) : mt l D cA A yX5_greater wsX5_greater rmX5_greater [.int (nI a), .int (nI b)] (X) (fun v Y => v = some (.int (nI (m_gre a b))) ∧ Y = X) := by
  refine q_start (by decide) rfl (Nat.le_of_ble_eq_true rfl) (fun p e s m args below meth c H locs hC hr hlk hnm hG ls hl => ?_)
  have hl : lv_has ls 2 [(0, .int (nI a)), (1, .int (nI b))] := hl
  have hx := hC.1.1
  have hb := hC.1.2.1
  have hts := hC.1.2.2.2.2
  refine lv_iload_n hx hb dX5_greater_0 rfl (lv_at hl 0 rfl) ?_
  refine lv_iload_n hx hb dX5_greater_1 rfl (lv_at hl 1 rfl) ?_
  refine n_le (tgt := 9) hC dX5_greater_2 (by decide) (by omega) (by omega) (fun c2 => ?_) (fun c2 => ?_)
  · have c2n := Nat.not_lt.mpr c2
    refine lv_iload_n hx hb dX5_greater_9 rfl (lv_at hl 1 rfl) ?_
    exact q_iret (v := (nI b)) hC hG hr hlk (⟨by simp only [m_gre, c2, c2n, ↓reduceIte], rfl⟩) dX5_greater_10
  · have c2n := Nat.not_le.mpr c2
    refine lv_iload_n hx hb dX5_greater_5 rfl (lv_at hl 0 rfl) ?_
    refine lv_goto (tgt := 10) hx hb dX5_greater_6 (by decide) ?_
    exact q_iret (v := (nI a)) hC hG hr hlk (⟨by simp only [m_gre, c2, c2n, ↓reduceIte], rfl⟩) dX5_greater_10

abbrev rmX5_hasLog : Room := { frames := 0, cells := 0, slots := 0, locals := 0 }
set_option maxHeartbeats 4000000 in
set_option maxRecDepth 100000 in
theorem k_X5_hasLog (l : Launch) (D : va_G) (cA : Nat → ClassId) (A : Nat → Prop) (X : Mem) (k : Nat) (hk : k < 2147483648) : mt l D cA A yX5_hasLog wsX5_hasLog rmX5_hasLog [.int (nI k)] (X) (fun v Y => v = some (.int (nI (m_hl k))) ∧ Y = X) := by
  refine q_start (by decide) rfl (Nat.le_of_ble_eq_true rfl) (fun p e s m args below meth c H locs hC hr hlk hnm hG ls hl => ?_)
  have hl : lv_has ls 1 [(0, .int (nI k))] := hl
  have hx := hC.1.1
  have hb := hC.1.2.1
  have hts := hC.1.2.2.2.2
  refine lv_iload_n hx hb dX5_hasLog_0 rfl (lv_at hl 0 rfl) ?_
  refine n_iconst hC 1 dX5_hasLog_1 ?_
  refine n_eq (tgt := 21) hC dX5_hasLog_2 (by decide) (by omega) (by omega) (fun c2 => ?_) (fun c2 => ?_)
  · refine n_iconst hC 1 dX5_hasLog_21 ?_
    refine lv_goto (tgt := 26) hx hb dX5_hasLog_22 (by decide) ?_
    exact q_zret (v := 1) hC hG hr hlk (by first | decide | omega) (⟨by simp [m_hl, c2], rfl⟩) dX5_hasLog_26
  · refine lv_iload_n hx hb dX5_hasLog_5 rfl (lv_at hl 0 rfl) ?_
    refine n_iconst hC 4 dX5_hasLog_6 ?_
    refine n_eq (tgt := 21) hC dX5_hasLog_7 (by decide) (by omega) (by omega) (fun c7 => ?_) (fun c7 => ?_)
    · refine n_iconst hC 1 dX5_hasLog_21 ?_
      refine lv_goto (tgt := 26) hx hb dX5_hasLog_22 (by decide) ?_
      exact q_zret (v := 1) hC hG hr hlk (by first | decide | omega) (⟨by simp [m_hl, c2, c7], rfl⟩) dX5_hasLog_26
    · refine lv_iload_n hx hb dX5_hasLog_10 rfl (lv_at hl 0 rfl) ?_
      refine n_iconst hC 5 dX5_hasLog_11 ?_
      refine n_eq (tgt := 21) hC dX5_hasLog_12 (by decide) (by omega) (by omega) (fun c12 => ?_) (fun c12 => ?_)
      · refine n_iconst hC 1 dX5_hasLog_21 ?_
        refine lv_goto (tgt := 26) hx hb dX5_hasLog_22 (by decide) ?_
        exact q_zret (v := 1) hC hG hr hlk (by first | decide | omega) (⟨by simp [m_hl, c2, c7, c12], rfl⟩) dX5_hasLog_26
      · refine lv_iload_n hx hb dX5_hasLog_15 rfl (lv_at hl 0 rfl) ?_
        refine n_bipush hC 7 (by decide) dX5_hasLog_16 ?_
        refine n_ne (tgt := 25) hC dX5_hasLog_18 (by decide) (by omega) (by omega) (fun c18 => ?_) (fun c18 => ?_)
        · refine n_iconst hC 0 dX5_hasLog_25 ?_
          exact q_zret (v := 0) hC hG hr hlk (by first | decide | omega) (⟨by simp [m_hl, c2, c7, c12, c18], rfl⟩) dX5_hasLog_26
        · refine n_iconst hC 1 dX5_hasLog_21 ?_
          refine lv_goto (tgt := 26) hx hb dX5_hasLog_22 (by decide) ?_
          exact q_zret (v := 1) hC hG hr hlk (by first | decide | omega) (⟨by simp [m_hl, c2, c7, c12, c18], rfl⟩) dX5_hasLog_26

abbrev rmX5_isNode : Room := { frames := 1, cells := 0, slots := 0, locals := 22 }
set_option maxHeartbeats 4000000 in
set_option maxRecDepth 100000 in
theorem k_X5_isNode (l : Launch) (D : va_G) (cA : Nat → ClassId) (A : Nat → Prop) {mb n f : Nat} {X : Mem} {M : MM} (hS : mS mb n f X) (hB : bM M) (i : Int32) : mt l D cA A yX5_isNode wsX5_isNode rmX5_isNode [.ref mb, .int i] (sM mb X M) (fun v Y => v = some (.int (nI (m_isNode n i))) ∧ Y = sM mb X M) := by
  refine q_start (by decide) rfl (Nat.le_of_ble_eq_true rfl) (fun p e s m args below meth c H locs hC hr hlk hnm hG ls hl => ?_)
  have hl : lv_has ls 2 [(0, .ref mb), (1, .int i)] := hl
  have hx := hC.1.1
  have hb := hC.1.2.1
  have hts := hC.1.2.2.2.2
  have i5 : ∀ w ∈ wsX50, w ∈ wsX5_isNode := by decide +kernel
  have hnf := hS.2.2.2.2
  have k77 := hts (.fieldLink RX5 77 "ViewStampsModel" "n" "I") (by decide +kernel)
  refine lv_iload_n hx hb dX5_isNode_0 rfl (lv_at hl 1 rfl) ?_
  refine n_iconst hC 0 dX5_isNode_1 ?_
  refine lv_aload_n hx hb dX5_isNode_2 rfl (lv_at hl 0 rfl) ?_
  refine q_mn hC hG hS i5 k77 dX5_isNode_3 ?_
  refine n_iconst hC 1 dX5_isNode_6 ?_
  refine n_isub hC (by omega) dX5_isNode_7 ?_
  refine q_callS (rest := []) (k_X5_in l D cA A _ i (nI 0) (nI (n - 1))) hC hG 3 gX5_isNode_X5_in rfl (by decide +kernel) ⟨by decide, by decide⟩ rfl hl.1 rfl (by simp [Value.category]) dX5_isNode_8 ⟨Nat.le_of_ble_eq_true rfl, Nat.le_of_ble_eq_true rfl⟩ (fun v Y H locs hq hG => ?_)
  obtain ⟨rfl, rfl⟩ := hq
  have q8 := m_in_le i (nI 0) (nI (n - 1))
  exact q_zret (v := (m_in i (nI 0) (nI (n - 1)))) hC hG hr hlk (by first | decide | omega) (⟨rfl, rfl⟩) dX5_isNode_11

abbrev rmX5_isFirst : Room := { frames := 0, cells := 0, slots := 0, locals := 0 }
set_option maxHeartbeats 4000000 in
set_option maxRecDepth 100000 in
theorem k_X5_isFirst (l : Launch) (D : va_G) (cA : Nat → ClassId) (A : Nat → Prop) {mb n f : Nat} {X : Mem} {M : MM} (hS : mS mb n f X) (hB : bM M) (i : Nat) (hi : i < n) : mt l D cA A yX5_isFirst wsX5_isFirst rmX5_isFirst [.ref mb, .int (nI i)] (sM mb X M) (fun v Y => v = some (.int (nI (m_fst n M i))) ∧ Y = sM mb X M) := by
  refine q_start (by decide) rfl (Nat.le_of_ble_eq_true rfl) (fun p e s m args below meth c H locs hC hr hlk hnm hG ls hl => ?_)
  have hl : lv_has ls 2 [(0, .ref mb), (1, .int (nI i))] := hl
  have hx := hC.1.1
  have hb := hC.1.2.1
  have hts := hC.1.2.2.2.2
  have i5 : ∀ w ∈ wsX50, w ∈ wsX5_isFirst := by decide +kernel
  have hnf := hS.2.2.2.2
  have k22 := hts (.fieldLink RX5 22 "ViewStampsModel" "view" "[I") (by decide +kernel)
  have k77 := hts (.fieldLink RX5 77 "ViewStampsModel" "n" "I") (by decide +kernel)
  refine lv_aload_n hx hb dX5_isFirst_0 rfl (lv_at hl 0 rfl) ?_
  refine q_mg hC hG hS i5 6 rfl k22 dX5_isFirst_1 ?_
  refine lv_iload_n hx hb dX5_isFirst_4 rfl (lv_at hl 1 rfl) ?_
  refine q_ml (N := 5) (w := M 6 i) hC hG hS 6 rfl rfl rfl (by omega) rfl dX5_isFirst_5 ?_
  have b1 : M 6 i < 2147483648 := by have := hB.1 6 i rfl; first | exact this | (simp [up2, m_cp, m_cpk] at this; exact this) | omega
  refine lv_aload_n hx hb dX5_isFirst_6 rfl (lv_at hl 0 rfl) ?_
  refine q_mn hC hG hS i5 k77 dX5_isFirst_7 ?_
  refine n_irem hC (by omega) (by omega) (by omega) dX5_isFirst_10 ?_
  have r10 : (M 6 i) % n < n := Nat.mod_lt _ (by omega)
  refine lv_iload_n hx hb dX5_isFirst_11 rfl (lv_at hl 1 rfl) ?_
  refine n_ne (tgt := 19) hC dX5_isFirst_12 (by decide) (by omega) (by omega) (fun c12 => ?_) (fun c12 => ?_)
  · refine n_iconst hC 0 dX5_isFirst_19 ?_
    exact q_zret (v := 0) hC hG hr hlk (by first | decide | omega) (⟨by simp [m_fst, c12], rfl⟩) dX5_isFirst_20
  · refine n_iconst hC 1 dX5_isFirst_15 ?_
    refine lv_goto (tgt := 20) hx hb dX5_isFirst_16 (by decide) ?_
    exact q_zret (v := 1) hC hG hr hlk (by first | decide | omega) (⟨by simp [m_fst, c12], rfl⟩) dX5_isFirst_20

/-- the log of slot a copied to slot b, k places of it so far -/
def m_cpk (M : MM) (a b k : Nat) : MM := fun x j => if x = 2 then (if 96 * b ≤ j ∧ j < 96 * b + k then M 2 (96 * a + (j - 96 * b)) else M 2 j) else if x = 3 ∧ j = b then M 3 a else if x = 4 ∧ j = b then M 4 a else M x j
def m_cp (M : MM) (a b : Nat) : MM := m_cpk M a b 96
theorem m_cpk_0 (M : MM) (a b : Nat) : up2 (up2 M 3 b (M 3 a)) 4 b (M 4 a) = m_cpk M a b 0 := by
  funext x j
  unfold up2 m_cpk
  by_cases h2 : x = 2
  · subst h2; simp; intro h; omega
  · by_cases h3 : x = 3
    · subst h3; simp
    · simp [h2, h3]
theorem m_cpk_r (M : MM) {a b k : Nat} (hk : k < 96) : m_cpk M a b k 2 (96 * a + k) = M 2 (96 * a + k) := by
  unfold m_cpk
  rw [if_pos rfl]
  split
  · rename_i h
    have : a = b := by omega
    subst this
    omega
  · rfl
theorem m_cpk_s (M : MM) {a b k : Nat} (hk : k < 96) : up2 (m_cpk M a b k) 2 (96 * b + k) (m_cpk M a b k 2 (96 * a + k)) = m_cpk M a b (k + 1) := by
  rw [m_cpk_r M hk]
  funext x j
  by_cases h2 : x = 2
  · subst h2
    by_cases hj : j = 96 * b + k
    · subst hj
      rw [up2_self]
      unfold m_cpk
      rw [if_pos rfl, if_pos (by omega)]
      congr 1; omega
    · rw [up2_ne _ _ (by omega)]
      unfold m_cpk
      rw [if_pos rfl, if_pos rfl]
      by_cases hr : 96 * b ≤ j ∧ j < 96 * b + k
      · rw [if_pos hr, if_pos (by omega)]
      · rw [if_neg hr, if_neg (by omega)]
  · rw [up2_ne _ _ (fun h => h2 h.1)]
    unfold m_cpk
    rw [if_neg h2, if_neg h2]
theorem bM_cpk {M : MM} (h : bM M) (a b k : Nat) : bM (m_cpk M a b k) := by
  refine ⟨fun x j hx => ?_, ?_⟩
  · unfold m_cpk
    split
    · rename_i h2; subst h2; cases hx
    · split
      · exact h.1 _ _ rfl
      · split
        · exact h.1 _ _ rfl
        · exact h.1 _ _ hx
  · have : m_cpk M a b k 17 0 = M 17 0 := by simp [m_cpk]
    rw [this]; exact h.2
theorem bM_cp {M : MM} (h : bM M) (a b : Nat) : bM (m_cp M a b) := bM_cpk h a b 96

abbrev rmX5_copyLog : Room := { frames := 0, cells := 0, slots := 0, locals := 0 }
set_option maxHeartbeats 4000000 in
set_option maxRecDepth 100000 in
theorem k_X5_copyLog (l : Launch) (D : va_G) (cA : Nat → ClassId) (A : Nat → Prop) {mb n f : Nat} {X : Mem} {M : MM} (hS : mS mb n f X) (hB : bM M) (a b : Nat) (ha : a < 295) (hb0 : b < 295) : mt l D cA A yX5_copyLog wsX5_copyLog rmX5_copyLog [.ref mb, .int (nI a), .int (nI b)] (sM mb X M) (fun v Y => v = none ∧ Y = sM mb X (m_cp M a b)) := by
  refine q_start (by decide) rfl (Nat.le_of_ble_eq_true rfl) (fun p e s m args below meth c H locs hC hr hlk hnm hG ls hl => ?_)
  have hl : lv_has ls 4 [(0, .ref mb), (1, .int (nI a)), (2, .int (nI b))] := hl
  have hx := hC.1.1
  have hb := hC.1.2.1
  have hts := hC.1.2.2.2.2
  have i5 : ∀ w ∈ wsX50, w ∈ wsX5_copyLog := by decide +kernel
  have hnf := hS.2.2.2.2
  have hB0 := hB
  have k7 := hts (.fieldLink RX5 7 "ViewStampsModel" "logs" "[I") (by decide +kernel)
  have k13 := hts (.fieldLink RX5 13 "ViewStampsModel" "many" "[I") (by decide +kernel)
  have k16 := hts (.fieldLink RX5 16 "ViewStampsModel" "sure" "[I") (by decide +kernel)
  have loop : ∀ (d : Nat) (k : Nat) (H : Heap) (locs : List Loc) (ls : Array Slot), 96 - k < d → k ≤ 96 → bM (m_cpk M a b k) → gw D cA A (sM mb X (m_cpk M a b k)) s.heap H locs → lv_has ls 4 [(0, .ref mb), (1, .int (nI a)), (2, .int (nI b)), (3, .int (nI k))] → W p l e rmX5_copyLog s m args below meth c H locs 0 0 (MQ below (mQ D cA A (fun v Y => v = none ∧ Y = sM mb X (m_cp M a b))) args s rmX5_copyLog.cells rmX5_copyLog.slots A) (F0 m 26 ls []) := by
    intro d
    induction d with
    | zero => intro k H locs ls hd; exact absurd hd (Nat.not_lt_zero _)
    | succ d ih =>
      intro k H locs ls hd hk hB hG hl
      refine lv_iload_n hx hb dX5_copyLog_26 rfl (lv_at hl 3 rfl) ?_
      refine n_bipush hC 96 (by decide) dX5_copyLog_27 ?_
      refine n_ge (tgt := 60) hC dX5_copyLog_29 (by decide) (by omega) (by omega) (fun c29 => ?_) (fun c29 => ?_)
      · have c29n := Nat.not_lt.mpr c29
        exact q_vret hC hG hr hlk (⟨rfl, by rw [show k = 96 by omega]; rfl⟩) dX5_copyLog_60
      · have c29n := Nat.not_le.mpr c29
        refine lv_aload_n hx hb dX5_copyLog_32 rfl (lv_at hl 0 rfl) ?_
        refine q_mg hC hG hS i5 2 rfl k7 dX5_copyLog_33 ?_
        refine n_bipush hC 96 (by decide) dX5_copyLog_36 ?_
        refine lv_iload_n hx hb dX5_copyLog_38 rfl (lv_at hl 2 rfl) ?_
        refine n_imul hC dX5_copyLog_39 ?_
        refine lv_iload_n hx hb dX5_copyLog_40 rfl (lv_at hl 3 rfl) ?_
        refine n_iadd hC dX5_copyLog_41 ?_
        refine lv_aload_n hx hb dX5_copyLog_42 rfl (lv_at hl 0 rfl) ?_
        refine q_mg hC hG hS i5 2 rfl k7 dX5_copyLog_43 ?_
        refine n_bipush hC 96 (by decide) dX5_copyLog_46 ?_
        refine lv_iload_n hx hb dX5_copyLog_48 rfl (lv_at hl 1 rfl) ?_
        refine n_imul hC dX5_copyLog_49 ?_
        refine lv_iload_n hx hb dX5_copyLog_50 rfl (lv_at hl 3 rfl) ?_
        refine n_iadd hC dX5_copyLog_51 ?_
        refine q_ml (N := 28320) (w := (m_cpk M a b k) 2 ((96 * a) + k)) hC hG hS 2 rfl rfl rfl (by omega) rfl dX5_copyLog_52 ?_
        refine q_ms (N := 28320) hC hG hS 2 rfl rfl rfl (by omega) dX5_copyLog_53 (fun H locs hG => ?_)
        have hB := bM_upx hB 2 ((96 * b) + k) (v := (m_cpk M a b k) 2 ((96 * a) + k)) rfl
        refine n_iinc (n := 1) (k := 3) (lv' := [(3, .int (nI (k + 1))), (0, .ref mb), (1, .int (nI a)), (2, .int (nI b))]) hC dX5_copyLog_54 hl rfl (by decide) rfl (fun ls hl => ?_)
        refine lv_goto (tgt := 26) hx hb dX5_copyLog_57 (by decide) ?_
        have hG : gw D cA A (sM mb X (up2 (m_cpk M a b k) 2 (96 * b + k) (m_cpk M a b k 2 (96 * a + k)))) _ _ _ := hG
        rw [m_cpk_s M (by omega)] at hG
        exact ih (k + 1) _ _ _ (by omega) (by omega) (bM_cpk hB0 a b _) hG (lv_sub hl [1, 2, 3, 0] rfl)
  refine lv_aload_n hx hb dX5_copyLog_0 rfl (lv_at hl 0 rfl) ?_
  refine q_mg hC hG hS i5 3 rfl k13 dX5_copyLog_1 ?_
  refine lv_iload_n hx hb dX5_copyLog_4 rfl (lv_at hl 2 rfl) ?_
  refine lv_aload_n hx hb dX5_copyLog_5 rfl (lv_at hl 0 rfl) ?_
  refine q_mg hC hG hS i5 3 rfl k13 dX5_copyLog_6 ?_
  refine lv_iload_n hx hb dX5_copyLog_9 rfl (lv_at hl 1 rfl) ?_
  refine q_ml (N := 295) (w := M 3 a) hC hG hS 3 rfl rfl rfl (by omega) rfl dX5_copyLog_10 ?_
  have b1 : M 3 a < 2147483648 := by have := hB.1 3 a rfl; first | exact this | (simp [up2, m_cp, m_cpk] at this; exact this) | omega
  refine q_ms (N := 295) hC hG hS 3 rfl rfl rfl (by omega) dX5_copyLog_11 (fun H locs hG => ?_)
  have hB := bM_up hB 3 b (v := M 3 a) (by omega)
  refine lv_aload_n hx hb dX5_copyLog_12 rfl (lv_at hl 0 rfl) ?_
  refine q_mg hC hG hS i5 4 rfl k16 dX5_copyLog_13 ?_
  refine lv_iload_n hx hb dX5_copyLog_16 rfl (lv_at hl 2 rfl) ?_
  refine lv_aload_n hx hb dX5_copyLog_17 rfl (lv_at hl 0 rfl) ?_
  refine q_mg hC hG hS i5 4 rfl k16 dX5_copyLog_18 ?_
  refine lv_iload_n hx hb dX5_copyLog_21 rfl (lv_at hl 1 rfl) ?_
  refine q_ml (N := 295) (w := M 4 a) hC hG hS 4 rfl rfl rfl (by omega) (by simp [up2, m_cp, m_cpk]) dX5_copyLog_22 ?_
  have b2 : M 4 a < 2147483648 := by have := hB.1 4 a rfl; first | exact this | (simp [up2, m_cp, m_cpk] at this; exact this) | omega
  refine q_ms (N := 295) hC hG hS 4 rfl rfl rfl (by omega) dX5_copyLog_23 (fun H locs hG => ?_)
  have hB := bM_up hB 4 b (v := M 4 a) (by omega)
  refine n_iconst hC 0 dX5_copyLog_24 ?_
  refine lv_istore_n (lv' := [(3, .int (nI 0)), (0, .ref mb), (1, .int (nI a)), (2, .int (nI b))]) hx hb dX5_copyLog_25 rfl hl (by decide) rfl (fun ls hl => ?_)
  rw [m_cpk_0] at hG
  exact loop 97 0 _ _ _ (by omega) (by omega) (bM_cpk hB0 a b 0) hG (lv_sub hl [1, 2, 3, 0] rfl)
