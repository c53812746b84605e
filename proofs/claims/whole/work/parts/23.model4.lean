theorem tN_nI {j : Nat} (h : j < 4294967296) : tN (nI j) = j := by
  have e : (nI j).toBitVec.toNat = j := pk_tn h
  exact e
theorem m_in_of {v : Int32} {lo hi : Nat} (hl : lo < 2147483648) (hh : hi < 2147483648) (h : m_in v (nI lo) (nI hi) ≠ 0) : ∃ j : Nat, lo ≤ j ∧ j ≤ hi ∧ v = nI j := by
  unfold m_in at h
  by_cases h1 : v < nI lo
  · rw [if_pos h1] at h; exact absurd rfl h
  · rw [if_neg h1] at h
    by_cases h2 : nI hi < v
    · rw [if_pos h2] at h; exact absurd rfl h
    · have e1 : (nI lo).toInt = (lo : Int) := nI_toInt hl
      have e2 : (nI hi).toInt = (hi : Int) := nI_toInt hh
      have g1 : (lo : Int) ≤ v.toInt := by
        have z1 : ¬ v.toInt < (nI lo).toInt := fun z => h1 (Int32.lt_iff_toInt_lt.mpr z)
        omega
      have g2 : v.toInt ≤ (hi : Int) := by
        have z1 : ¬ (nI hi).toInt < v.toInt := fun z => h2 (Int32.lt_iff_toInt_lt.mpr z)
        omega
      refine ⟨v.toInt.toNat, by omega, by omega, ?_⟩
      apply Int32.toInt_inj.mp
      rw [nI_toInt (by omega)]
      omega
theorem m_in_yes {lo hi j : Nat} (h1 : lo ≤ j) (h2 : j ≤ hi) (hh : hi < 2147483648) : m_in (nI j) (nI lo) (nI hi) = 1 := by
  unfold m_in
  rw [if_neg (nI_nlt h1 (by omega)), if_neg (nI_nlt h2 (by omega))]
theorem m_isNode_of {n : Nat} {i : Int32} (hn : 0 < n) (hn2 : n < 2147483648) (h : m_isNode n i ≠ 0) : ∃ j : Nat, j < n ∧ i = nI j := by
  obtain ⟨j, -, h2, h3⟩ := m_in_of (by decide) (by omega) h
  exact ⟨j, by omega, h3⟩
theorem m_inL_of {L : Nat} {v : Int32} (hL : L ≤ 240) (h : m_in v (nI 0) (nI L - nI 1) ≠ 0) : ∃ j : Nat, j < L ∧ v = nI j := by
  cases L with
  | zero =>
    exfalso
    apply h
    unfold m_in
    by_cases h1 : v < nI 0
    · rw [if_pos h1]
    · rw [if_neg h1]
      rw [if_pos ?_]
      apply Int32.lt_iff_toInt_lt.mpr
      have e0 : (nI 0 - nI 1).toInt = -1 := by decide
      have e1 : (nI 0).toInt = 0 := by decide
      have z1 : ¬ v.toInt < (nI 0).toInt := fun z => h1 (Int32.lt_iff_toInt_lt.mpr z)
      omega
  | succ L =>
    rw [show nI (L + 1) - nI 1 = nI L from nI_pred L] at h
    obtain ⟨j, -, h2, h3⟩ := m_in_of (by decide) (by omega) h
    exact ⟨j, by omega, h3⟩
/-- the logs: lengths, sure, entries -/
def mL (M : MM) : Prop := ∀ g, g < 295 → M 3 g ≤ 16 ∧ M 4 g ≤ M 3 g
def mE (M : MM) : Prop := ∀ g k, g < 295 → k < M 3 g → M 2 (96 * g + 6 * k) < 2147483648 ∧ M 2 (96 * g + 6 * k + 1) < 2147483648 ∧ M 2 (96 * g + 6 * k + 2) < 3 ∧ M 2 (96 * g + 6 * k + 3) < 8 ∧ M 2 (96 * g + 6 * k + 4) < 8
/-- the letters -/
def mP (n : Nat) (M : MM) : Prop := ∀ l, l < M 17 0 → M 19 l < n ∧ M 20 l < n ∧ 1 ≤ M 21 l ∧ M 21 l ≤ 7

/-- isNew: none of the first k entries of node i is of that client with that number or a greater one -/
def m_new (M : MM) (i c x : Nat) : Nat → Nat
  | 0 => 1
  | k + 1 => if m_new M i c x k = 0 then 0 else if M 2 (96 * i + 6 * k) = c then (if M 2 (96 * i + 6 * k + 1) < x then 1 else 0) else 1
theorem m_new_le (M : MM) (i c x : Nat) : ∀ k, m_new M i c x k ≤ 1 := by
  intro k
  cases k with
  | zero => exact Nat.le_refl 1
  | succ k => unfold m_new; split <;> (try split) <;> (try split) <;> decide
theorem m_new_0 {M : MM} {i c x k : Nat} (h : m_new M i c x k = 0) : ∀ q, k ≤ q → m_new M i c x q = 0 := by
  intro q hq
  induction q with
  | zero =>
    have : k = 0 := by omega
    subst this; exact h
  | succ q ih =>
    by_cases hk : k = q + 1
    · subst hk; exact h
    · have := ih (by omega)
      simp only [m_new, this, ↓reduceIte]

abbrev rmX5_isNew : Room := { frames := 0, cells := 0, slots := 0, locals := 0 }
set_option maxHeartbeats 4000000 in
set_option maxRecDepth 100000 in
theorem k_X5_isNew (l : Launch) (D : va_G) (cA : Nat → ClassId) (A : Nat → Prop) {mb n f : Nat} {X : Mem} {M : MM} (hS : mS mb n f X) (hB : bM M) (hL : mL M) (hE : mE M) (i ci x0 : Nat) (hi : i < n) (hci : ci < 2147483648) (hx0 : x0 < 2147483648) : mt l D cA A yX5_isNew wsX5_isNew rmX5_isNew [.ref mb, .int (nI i), .int (nI ci), .int (nI x0)] (sM mb X M) (fun w Y => w = some (.int (nI (m_new M i ci x0 (M 3 i)))) ∧ Y = sM mb X M) := by
  refine q_start (by decide) rfl (Nat.le_of_ble_eq_true rfl) (fun p e s m args below meth c H locs hC hr hlk hnm hG ls hl => ?_)
  have hl : lv_has ls 6 [(0, .ref mb), (1, .int (nI i)), (2, .int (nI ci)), (3, .int (nI x0))] := hl
  have hx := hC.1.1
  have hb := hC.1.2.1
  have hts := hC.1.2.2.2.2
  have i5 : ∀ w ∈ wsX50, w ∈ wsX5_isNew := by decide +kernel
  have hnf := hS.2.2.2.2
  have hL0 := hL i (by omega)
  have k7 := hts (.fieldLink RX5 7 "ViewStampsModel" "logs" "[I") (by decide +kernel)
  have k13 := hts (.fieldLink RX5 13 "ViewStampsModel" "many" "[I") (by decide +kernel)
  have loop : ∀ (d : Nat) (k : Nat) (H : Heap) (locs : List Loc) (ls : Array Slot), M 3 i - k < d → k ≤ M 3 i → m_new M i ci x0 k = 1 → gw D cA A (sM mb X M) s.heap H locs → lv_has ls 6 [(0, .ref mb), (1, .int (nI i)), (2, .int (nI ci)), (3, .int (nI x0)), (4, .int (nI k))] → W p l e rmX5_isNew s m args below meth c H locs 0 0 (MQ below (mQ D cA A (fun w Y => w = some (.int (nI (m_new M i ci x0 (M 3 i)))) ∧ Y = sM mb X M)) args s rmX5_isNew.cells rmX5_isNew.slots A) (F0 m 3 ls []) := by
    intro d
    induction d with
    | zero => intro k H locs ls hd; exact absurd hd (Nat.not_lt_zero _)
    | succ d ih =>
      intro k H locs ls hd hk hw hG hl
      refine lv_iload hx hb dX5_isNew_3 (lv_at hl 4 rfl) ?_
      refine lv_aload_n hx hb dX5_isNew_5 rfl (lv_at hl 0 rfl) ?_
      refine q_mg hC hG hS i5 3 rfl k13 dX5_isNew_6 ?_
      refine lv_iload_n hx hb dX5_isNew_9 rfl (lv_at hl 1 rfl) ?_
      refine q_ml (N := 295) (w := M 3 i) hC hG hS 3 rfl rfl rfl (by omega) rfl dX5_isNew_10 ?_
      have b1 : M 3 i < 2147483648 := by have := hB.1 3 i rfl; first | exact this | (simp [up2, m_cp, m_cpk] at this; exact this) | omega
      refine n_ge (tgt := 58) hC dX5_isNew_11 (by decide) (by omega) (by omega) (fun c11 => ?_) (fun c11 => ?_)
      · have c11n := Nat.not_lt.mpr c11
        refine n_iconst hC 1 dX5_isNew_58 ?_
        exact q_zret (v := 1) hC hG hr hlk (by first | decide | omega) (⟨by rw [← show k = M 3 i by omega, hw], rfl⟩) dX5_isNew_59
      · have c11n := Nat.not_le.mpr c11
        have ent := hE i k (by omega) (by omega)
        have hL1 := hL i (by omega)
        refine n_bipush hC 96 (by decide) dX5_isNew_14 ?_
        refine lv_iload_n hx hb dX5_isNew_16 rfl (lv_at hl 1 rfl) ?_
        refine n_imul hC dX5_isNew_17 ?_
        refine n_bipush hC 6 (by decide) dX5_isNew_18 ?_
        refine lv_iload hx hb dX5_isNew_20 (lv_at hl 4 rfl) ?_
        refine n_imul hC dX5_isNew_22 ?_
        refine n_iadd hC dX5_isNew_23 ?_
        refine lv_istore (lv' := [(5, .int (nI ((96 * i) + (6 * k)))), (0, .ref mb), (1, .int (nI i)), (2, .int (nI ci)), (3, .int (nI x0)), (4, .int (nI k))]) hx hb dX5_isNew_24 hl (by decide) rfl (fun ls hl => ?_)
        refine lv_aload_n hx hb dX5_isNew_26 rfl (lv_at hl 1 rfl) ?_
        refine q_mg hC hG hS i5 2 rfl k7 dX5_isNew_27 ?_
        refine lv_iload hx hb dX5_isNew_30 (lv_at hl 0 rfl) ?_
        refine q_ml (N := 28320) (w := M 2 ((96 * i) + (6 * k))) hC hG hS 2 rfl rfl rfl (by omega) rfl dX5_isNew_32 ?_
        refine lv_iload_n hx hb dX5_isNew_33 rfl (lv_at hl 3 rfl) ?_
        refine n_ne (tgt := 52) hC dX5_isNew_34 (by decide) (by omega) (by omega) (fun c34 => ?_) (fun c34 => ?_)
        · refine n_iinc (n := 1) (k := 5) (lv' := [(4, .int (nI (k + 1))), (5, .int (nI ((96 * i) + (6 * k)))), (0, .ref mb), (1, .int (nI i)), (2, .int (nI ci)), (3, .int (nI x0))]) hC dX5_isNew_52 hl rfl (by decide) rfl (fun ls hl => ?_)
          refine lv_goto (tgt := 3) hx hb dX5_isNew_55 (by decide) ?_
          exact ih (k + 1) _ _ _ (by omega) (by omega) (by rw [m_new, hw]; simp only [c34, ↓reduceIte]; try rfl) hG (lv_sub hl [2, 3, 4, 5, 0] rfl)
        · refine lv_aload_n hx hb dX5_isNew_37 rfl (lv_at hl 1 rfl) ?_
          refine q_mg hC hG hS i5 2 rfl k7 dX5_isNew_38 ?_
          refine lv_iload hx hb dX5_isNew_41 (lv_at hl 0 rfl) ?_
          refine n_iconst hC 1 dX5_isNew_43 ?_
          refine n_iadd hC dX5_isNew_44 ?_
          refine q_ml (N := 28320) (w := M 2 (((96 * i) + (6 * k)) + 1)) hC hG hS 2 rfl rfl rfl (by omega) rfl dX5_isNew_45 ?_
          refine lv_iload_n hx hb dX5_isNew_46 rfl (lv_at hl 4 rfl) ?_
          refine n_lt (tgt := 52) hC dX5_isNew_47 (by decide) (by omega) (by omega) (fun c47 => ?_) (fun c47 => ?_)
          · have c47n := Nat.not_le.mpr c47
            refine n_iinc (n := 1) (k := 5) (lv' := [(4, .int (nI (k + 1))), (5, .int (nI ((96 * i) + (6 * k)))), (0, .ref mb), (1, .int (nI i)), (2, .int (nI ci)), (3, .int (nI x0))]) hC dX5_isNew_52 hl rfl (by decide) rfl (fun ls hl => ?_)
            refine lv_goto (tgt := 3) hx hb dX5_isNew_55 (by decide) ?_
            exact ih (k + 1) _ _ _ (by omega) (by omega) (by rw [m_new, hw]; simp only [c34, c47, c47n, ↓reduceIte]; try rfl) hG (lv_sub hl [2, 3, 4, 5, 0] rfl)
          · have c47n := Nat.not_lt.mpr c47
            refine n_iconst hC 0 dX5_isNew_50 ?_
            exact q_zret (v := 0) hC hG hr hlk (by first | decide | omega) (⟨by rw [m_new_0 (k := k + 1) (by rw [m_new, hw]; simp only [c34, c47n, ↓reduceIte]; try rfl) _ (by omega)], rfl⟩) dX5_isNew_51
  refine n_iconst hC 0 dX5_isNew_0 ?_
  refine lv_istore (lv' := [(4, .int (nI 0)), (0, .ref mb), (1, .int (nI i)), (2, .int (nI ci)), (3, .int (nI x0))]) hx hb dX5_isNew_1 hl (by decide) rfl (fun ls hl => ?_)
  exact loop (M 3 i + 1) 0 _ _ _ (by omega) (by omega) rfl hG (lv_sub hl [1, 2, 3, 4, 0] rfl)

def m_ent (M : MM) (i c x k a b v : Nat) : MM :=
  up2 (up2 (up2 (up2 (up2 (up2 (up2 M 2 (96 * i + 6 * M 3 i) c) 2 (96 * i + 6 * M 3 i + 1) x) 2 (96 * i + 6 * M 3 i + 2) k) 2 (96 * i + 6 * M 3 i + 3) a) 2 (96 * i + 6 * M 3 i + 4) b) 2 (96 * i + 6 * M 3 i + 5) v) 3 i (M 3 i + 1)
theorem bM_ent {M : MM} (h : bM M) {i c x k a b v : Nat} (h3 : M 3 i + 1 < 2147483648) : bM (m_ent M i c x k a b v) :=
  bM_up (bM_upx (bM_upx (bM_upx (bM_upx (bM_upx (bM_upx h 2 _ rfl) 2 _ rfl) 2 _ rfl) 2 _ rfl) 2 _ rfl) 2 _ rfl) 3 i h3
def m_req2 (n : Nat) (M : MM) (i c x k a b v : Nat) : Int32 × MM :=
  if M 5 i = 0 then (if m_fst n M i = 0 then (-3, M) else if m_new M i c x (M 3 i) = 0 then (nI 0, M) else if M 3 i = 16 then (-4, M) else
    (nI (m_pa (m_ent M i c x k a b v) i 1 (M 6 i) 0 n 3 i), m_pa (m_ent M i c x k a b v) i 1 (M 6 i) 0 n)) else (-3, M)
def m_request (n : Nat) (M : MM) (node client number kind a b v : Int32) : Int32 × MM :=
  if m_isNode n node = 0 then (-2, M) else if m_in client (nI 0) (nI 3) = 0 then (-2, M) else if m_in number (nI 1) (nI 1000000) = 0 then (-2, M) else if m_in kind (nI 0) (nI 2) = 0 then (-2, M) else if m_in a (nI 0) (nI 7) = 0 then (-2, M) else if m_in b (nI 0) (nI 7) = 0 then (-2, M) else
    m_req2 n M (tN node) (tN client) (tN number) (tN kind) (tN a) (tN b) (tN v)

abbrev rmX5_request : Room := { frames := 3, cells := 0, slots := 0, locals := 73 }
set_option maxHeartbeats 4000000 in
set_option maxRecDepth 100000 in
theorem k_X5_request (l : Launch) (D : va_G) (cA : Nat → ClassId) (A : Nat → Prop) {mb n f : Nat} {X : Mem} {M : MM} (hS : mS mb n f X) (hB : bM M) (hL : mL M) (hE : mE M) (node client number kind a b v : Int32) : mt l D cA A yX5_request wsX5_request rmX5_request [.ref mb, .int node, .int client, .int number, .int kind, .int a, .int b, .int v] (sM mb X M) (fun w Y => w = some (.int (m_request n M node client number kind a b v).1) ∧ Y = sM mb X (m_request n M node client number kind a b v).2) := by
  refine q_start (by decide) rfl (Nat.le_of_ble_eq_true rfl) (fun p e s m args below meth c H locs hC hr hlk hnm hG ls hl => ?_)
  have hl : lv_has ls 10 [(0, .ref mb), (1, .int node), (2, .int client), (3, .int number), (4, .int kind), (5, .int a), (6, .int b), (7, .int v)] := hl
  have hx := hC.1.1
  have hb := hC.1.2.1
  have hts := hC.1.2.2.2.2
  have i5 : ∀ w ∈ wsX50, w ∈ wsX5_request := by decide +kernel
  have hnf := hS.2.2.2.2
  have k7 := hts (.fieldLink RX5 7 "ViewStampsModel" "logs" "[I") (by decide +kernel)
  have k13 := hts (.fieldLink RX5 13 "ViewStampsModel" "many" "[I") (by decide +kernel)
  have k19 := hts (.fieldLink RX5 19 "ViewStampsModel" "status" "[I") (by decide +kernel)
  have k22 := hts (.fieldLink RX5 22 "ViewStampsModel" "view" "[I") (by decide +kernel)
  refine lv_aload_n hx hb dX5_request_0 rfl (lv_at hl 0 rfl) ?_
  refine lv_iload_n hx hb dX5_request_1 rfl (lv_at hl 1 rfl) ?_
  refine q_callV (rest := []) (k_X5_isNode l D cA A hS hB node) hC hG cF5 hS.1 1 gX5_request_X5_isNode rfl (by decide +kernel) ⟨by decide, by decide⟩ rfl hl.1 rfl (by simp [Value.category]) dX5_request_2 ⟨Nat.le_of_ble_eq_true rfl, Nat.le_of_ble_eq_true rfl⟩ (fun v Y H locs hq hG => ?_)
  obtain ⟨rfl, rfl⟩ := hq
  have q2 : m_isNode n node ≤ 1 := m_in_le _ _ _
  refine n_ifeq (tgt := 59) hC dX5_request_5 (by decide) (by omega) (fun c5 => ?_) (fun c5 => ?_)
  · refine lv_bipush (v := -2) hx hb dX5_request_59 (by decide) ?_
    exact q_iret (v := (-2)) hC hG hr hlk (⟨by simp only [m_request, m_req2, m_ent, if_pos c5, ↓reduceIte], by simp only [m_request, m_req2, m_ent, if_pos c5, ↓reduceIte]⟩) dX5_request_61
  · refine lv_iload_n hx hb dX5_request_8 rfl (lv_at hl 2 rfl) ?_
    refine n_iconst hC 0 dX5_request_9 ?_
    refine n_iconst hC 3 dX5_request_10 ?_
    refine q_callS (rest := []) (k_X5_in l D cA A _ client (nI 0) (nI 3)) hC hG 3 gX5_request_X5_in rfl (by decide +kernel) ⟨by decide, by decide⟩ rfl hl.1 rfl (by simp [Value.category]) dX5_request_11 ⟨Nat.le_of_ble_eq_true rfl, Nat.le_of_ble_eq_true rfl⟩ (fun v Y H locs hq hG => ?_)
    obtain ⟨rfl, rfl⟩ := hq
    have q11 := m_in_le client (nI 0) (nI 3)
    refine n_ifeq (tgt := 59) hC dX5_request_14 (by decide) (by omega) (fun c14 => ?_) (fun c14 => ?_)
    · refine lv_bipush (v := -2) hx hb dX5_request_59 (by decide) ?_
      exact q_iret (v := (-2)) hC hG hr hlk (⟨by simp only [m_request, m_req2, m_ent, if_neg c5, if_pos c14, ↓reduceIte], by simp only [m_request, m_req2, m_ent, if_neg c5, if_pos c14, ↓reduceIte]⟩) dX5_request_61
    · refine lv_iload_n hx hb dX5_request_17 rfl (lv_at hl 3 rfl) ?_
      refine n_iconst hC 1 dX5_request_18 ?_
      refine lv_ldc (v := nI 1000000) hx hb hC.1.2.2.2.1 (hts (.constant RX5 148 (1000000)) (by decide +kernel)) dX5_request_19 ?_
      refine q_callS (rest := []) (k_X5_in l D cA A _ number (nI 1) (nI 1000000)) hC hG 3 gX5_request_X5_in rfl (by decide +kernel) ⟨by decide, by decide⟩ rfl hl.1 rfl (by simp [Value.category]) dX5_request_21 ⟨Nat.le_of_ble_eq_true rfl, Nat.le_of_ble_eq_true rfl⟩ (fun v Y H locs hq hG => ?_)
      obtain ⟨rfl, rfl⟩ := hq
      have q21 := m_in_le number (nI 1) (nI 1000000)
      refine n_ifeq (tgt := 59) hC dX5_request_24 (by decide) (by omega) (fun c24 => ?_) (fun c24 => ?_)
      · refine lv_bipush (v := -2) hx hb dX5_request_59 (by decide) ?_
        exact q_iret (v := (-2)) hC hG hr hlk (⟨by simp only [m_request, m_req2, m_ent, if_neg c5, if_neg c14, if_pos c24, ↓reduceIte], by simp only [m_request, m_req2, m_ent, if_neg c5, if_neg c14, if_pos c24, ↓reduceIte]⟩) dX5_request_61
      · refine lv_iload hx hb dX5_request_27 (lv_at hl 4 rfl) ?_
        refine n_iconst hC 0 dX5_request_29 ?_
        refine n_iconst hC 2 dX5_request_30 ?_
        refine q_callS (rest := []) (k_X5_in l D cA A _ kind (nI 0) (nI 2)) hC hG 3 gX5_request_X5_in rfl (by decide +kernel) ⟨by decide, by decide⟩ rfl hl.1 rfl (by simp [Value.category]) dX5_request_31 ⟨Nat.le_of_ble_eq_true rfl, Nat.le_of_ble_eq_true rfl⟩ (fun v Y H locs hq hG => ?_)
        obtain ⟨rfl, rfl⟩ := hq
        have q31 := m_in_le kind (nI 0) (nI 2)
        refine n_ifeq (tgt := 59) hC dX5_request_34 (by decide) (by omega) (fun c34 => ?_) (fun c34 => ?_)
        · refine lv_bipush (v := -2) hx hb dX5_request_59 (by decide) ?_
          exact q_iret (v := (-2)) hC hG hr hlk (⟨by simp only [m_request, m_req2, m_ent, if_neg c5, if_neg c14, if_neg c24, if_pos c34, ↓reduceIte], by simp only [m_request, m_req2, m_ent, if_neg c5, if_neg c14, if_neg c24, if_pos c34, ↓reduceIte]⟩) dX5_request_61
        · refine lv_iload hx hb dX5_request_37 (lv_at hl 5 rfl) ?_
          refine n_iconst hC 0 dX5_request_39 ?_
          refine n_bipush hC 7 (by decide) dX5_request_40 ?_
          refine q_callS (rest := []) (k_X5_in l D cA A _ a (nI 0) (nI 7)) hC hG 3 gX5_request_X5_in rfl (by decide +kernel) ⟨by decide, by decide⟩ rfl hl.1 rfl (by simp [Value.category]) dX5_request_42 ⟨Nat.le_of_ble_eq_true rfl, Nat.le_of_ble_eq_true rfl⟩ (fun v Y H locs hq hG => ?_)
          obtain ⟨rfl, rfl⟩ := hq
          have q42 := m_in_le a (nI 0) (nI 7)
          refine n_ifeq (tgt := 59) hC dX5_request_45 (by decide) (by omega) (fun c45 => ?_) (fun c45 => ?_)
          · refine lv_bipush (v := -2) hx hb dX5_request_59 (by decide) ?_
            exact q_iret (v := (-2)) hC hG hr hlk (⟨by simp only [m_request, m_req2, m_ent, if_neg c5, if_neg c14, if_neg c24, if_neg c34, if_pos c45, ↓reduceIte], by simp only [m_request, m_req2, m_ent, if_neg c5, if_neg c14, if_neg c24, if_neg c34, if_pos c45, ↓reduceIte]⟩) dX5_request_61
          · refine lv_iload hx hb dX5_request_48 (lv_at hl 6 rfl) ?_
            refine n_iconst hC 0 dX5_request_50 ?_
            refine n_bipush hC 7 (by decide) dX5_request_51 ?_
            refine q_callS (rest := []) (k_X5_in l D cA A _ b (nI 0) (nI 7)) hC hG 3 gX5_request_X5_in rfl (by decide +kernel) ⟨by decide, by decide⟩ rfl hl.1 rfl (by simp [Value.category]) dX5_request_53 ⟨Nat.le_of_ble_eq_true rfl, Nat.le_of_ble_eq_true rfl⟩ (fun v Y H locs hq hG => ?_)
            obtain ⟨rfl, rfl⟩ := hq
            have q53 := m_in_le b (nI 0) (nI 7)
            refine n_ifne (tgt := 62) hC dX5_request_56 (by decide) (by omega) (fun c56 => ?_) (fun c56 => ?_)
            · obtain ⟨i, hi, rfl⟩ := m_isNode_of (n := n) (by omega) (by omega) c5
              obtain ⟨ci, hci1, hci2, rfl⟩ := m_in_of (by decide) (by decide) c14
              obtain ⟨x0, hx01, hx02, rfl⟩ := m_in_of (by decide) (by decide) c24
              obtain ⟨kk, hkk1, hkk2, rfl⟩ := m_in_of (by decide) (by decide) c34
              obtain ⟨aa, haa1, haa2, rfl⟩ := m_in_of (by decide) (by decide) c45
              obtain ⟨bb, hbb1, hbb2, rfl⟩ := m_in_of (by decide) (by decide) c56
              have hL0 := hL i (by omega)
              have t_i : tN (nI i) = i := tN_nI (by omega)
              have t_ci : tN (nI ci) = ci := tN_nI (by omega)
              have t_x0 : tN (nI x0) = x0 := tN_nI (by omega)
              have t_kk : tN (nI kk) = kk := tN_nI (by omega)
              have t_aa : tN (nI aa) = aa := tN_nI (by omega)
              have t_bb : tN (nI bb) = bb := tN_nI (by omega)
              have hl : lv_has ls 10 [(0, .ref mb), (1, .int (nI i)), (2, .int (nI ci)), (3, .int (nI x0)), (4, .int (nI kk)), (5, .int (nI aa)), (6, .int (nI bb)), (7, .int (nI (tN v)))] := by rw [nI_tN]; exact hl
              refine lv_aload_n hx hb dX5_request_62 rfl (lv_at hl 0 rfl) ?_
              refine q_mg hC hG hS i5 5 rfl k19 dX5_request_63 ?_
              refine lv_iload_n hx hb dX5_request_66 rfl (lv_at hl 1 rfl) ?_
              refine q_ml (N := 5) (w := M 5 i) hC hG hS 5 rfl rfl rfl (by omega) rfl dX5_request_67 ?_
              have b1 : M 5 i < 2147483648 := by have := hB.1 5 i rfl; first | exact this | (simp [up2, m_cp, m_cpk] at this; exact this) | omega
              refine n_ifne (tgt := 79) hC dX5_request_68 (by decide) (by omega) (fun c68 => ?_) (fun c68 => ?_)
              · refine lv_bipush (v := -3) hx hb dX5_request_79 (by decide) ?_
                exact q_iret (v := (-3)) hC hG hr hlk (⟨by simp only [m_request, m_req2, m_ent, if_neg c5, if_neg c14, if_neg c24, if_neg c34, if_neg c45, if_neg c56, if_neg c68, t_i, t_ci, t_x0, t_kk, t_aa, t_bb, ↓reduceIte], by simp only [m_request, m_req2, m_ent, if_neg c5, if_neg c14, if_neg c24, if_neg c34, if_neg c45, if_neg c56, if_neg c68, t_i, t_ci, t_x0, t_kk, t_aa, t_bb, ↓reduceIte]⟩) dX5_request_81
              · refine lv_aload_n hx hb dX5_request_71 rfl (lv_at hl 0 rfl) ?_
                refine lv_iload_n hx hb dX5_request_72 rfl (lv_at hl 1 rfl) ?_
                refine q_callV (rest := []) (k_X5_isFirst l D cA A hS hB i (by omega)) hC hG cF5 hS.1 1 gX5_request_X5_isFirst rfl (by decide +kernel) ⟨by decide, by decide⟩ rfl hl.1 rfl (by simp [Value.category]) dX5_request_73 ⟨Nat.le_of_ble_eq_true rfl, Nat.le_of_ble_eq_true rfl⟩ (fun v Y H locs hq hG => ?_)
                obtain ⟨rfl, rfl⟩ := hq
                have q73 := m_fst_le n M i
                refine n_ifne (tgt := 82) hC dX5_request_76 (by decide) (by omega) (fun c76 => ?_) (fun c76 => ?_)
                · refine lv_aload_n hx hb dX5_request_82 rfl (lv_at hl 0 rfl) ?_
                  refine lv_iload_n hx hb dX5_request_83 rfl (lv_at hl 1 rfl) ?_
                  refine lv_iload_n hx hb dX5_request_84 rfl (lv_at hl 2 rfl) ?_
                  refine lv_iload_n hx hb dX5_request_85 rfl (lv_at hl 3 rfl) ?_
                  refine q_callV (rest := []) (k_X5_isNew l D cA A hS hB hL hE i ci x0 (by omega) (by omega) (by omega)) hC hG cF5 hS.1 3 gX5_request_X5_isNew rfl (by decide +kernel) ⟨by decide, by decide⟩ rfl hl.1 rfl (by simp [Value.category]) dX5_request_86 ⟨Nat.le_of_ble_eq_true rfl, Nat.le_of_ble_eq_true rfl⟩ (fun v Y H locs hq hG => ?_)
                  obtain ⟨rfl, rfl⟩ := hq
                  have q86 := m_new_le M i ci x0 (M 3 i)
                  refine n_ifne (tgt := 94) hC dX5_request_89 (by decide) (by omega) (fun c89 => ?_) (fun c89 => ?_)
                  · refine lv_aload_n hx hb dX5_request_94 rfl (lv_at hl 0 rfl) ?_
                    refine q_mg hC hG hS i5 3 rfl k13 dX5_request_95 ?_
                    refine lv_iload_n hx hb dX5_request_98 rfl (lv_at hl 1 rfl) ?_
                    refine q_ml (N := 295) (w := M 3 i) hC hG hS 3 rfl rfl rfl (by omega) rfl dX5_request_99 ?_
                    have b2 : M 3 i < 2147483648 := by have := hB.1 3 i rfl; first | exact this | (simp [up2, m_cp, m_cpk] at this; exact this) | omega
                    refine n_bipush hC 16 (by decide) dX5_request_100 ?_
                    refine n_ne (tgt := 108) hC dX5_request_102 (by decide) (by omega) (by omega) (fun c102 => ?_) (fun c102 => ?_)
                    · refine n_bipush hC 96 (by decide) dX5_request_108 ?_
                      refine lv_iload_n hx hb dX5_request_110 rfl (lv_at hl 1 rfl) ?_
                      refine n_imul hC dX5_request_111 ?_
                      refine n_bipush hC 6 (by decide) dX5_request_112 ?_
                      refine lv_aload_n hx hb dX5_request_114 rfl (lv_at hl 0 rfl) ?_
                      refine q_mg hC hG hS i5 3 rfl k13 dX5_request_115 ?_
                      refine lv_iload_n hx hb dX5_request_118 rfl (lv_at hl 1 rfl) ?_
                      refine q_ml (N := 295) (w := M 3 i) hC hG hS 3 rfl rfl rfl (by omega) rfl dX5_request_119 ?_
                      have b3 : M 3 i < 2147483648 := by have := hB.1 3 i rfl; first | exact this | (simp [up2, m_cp, m_cpk] at this; exact this) | omega
                      refine n_imul hC dX5_request_120 ?_
                      refine n_iadd hC dX5_request_121 ?_
                      refine lv_istore (lv' := [(8, .int (nI ((96 * i) + (6 * (M 3 i))))), (0, .ref mb), (1, .int (nI i)), (2, .int (nI ci)), (3, .int (nI x0)), (4, .int (nI kk)), (5, .int (nI aa)), (6, .int (nI bb)), (7, .int (nI (tN v)))]) hx hb dX5_request_122 hl (by decide) rfl (fun ls hl => ?_)
                      refine lv_aload_n hx hb dX5_request_124 rfl (lv_at hl 1 rfl) ?_
                      refine q_mg hC hG hS i5 2 rfl k7 dX5_request_125 ?_
                      refine lv_iload hx hb dX5_request_128 (lv_at hl 0 rfl) ?_
                      refine lv_iload_n hx hb dX5_request_130 rfl (lv_at hl 3 rfl) ?_
                      refine q_ms (N := 28320) hC hG hS 2 rfl rfl rfl (by omega) dX5_request_131 (fun H locs hG => ?_)
                      have hB := bM_upx hB 2 ((96 * i) + (6 * (M 3 i))) (v := ci) rfl
                      refine lv_aload_n hx hb dX5_request_132 rfl (lv_at hl 1 rfl) ?_
                      refine q_mg hC hG hS i5 2 rfl k7 dX5_request_133 ?_
                      refine lv_iload hx hb dX5_request_136 (lv_at hl 0 rfl) ?_
                      refine n_iconst hC 1 dX5_request_138 ?_
                      refine n_iadd hC dX5_request_139 ?_
                      refine lv_iload_n hx hb dX5_request_140 rfl (lv_at hl 4 rfl) ?_
                      refine q_ms (N := 28320) hC hG hS 2 rfl rfl rfl (by omega) dX5_request_141 (fun H locs hG => ?_)
                      have hB := bM_upx hB 2 (((96 * i) + (6 * (M 3 i))) + 1) (v := x0) rfl
                      refine lv_aload_n hx hb dX5_request_142 rfl (lv_at hl 1 rfl) ?_
                      refine q_mg hC hG hS i5 2 rfl k7 dX5_request_143 ?_
                      refine lv_iload hx hb dX5_request_146 (lv_at hl 0 rfl) ?_
                      refine n_iconst hC 2 dX5_request_148 ?_
                      refine n_iadd hC dX5_request_149 ?_
                      refine lv_iload hx hb dX5_request_150 (lv_at hl 5 rfl) ?_
                      refine q_ms (N := 28320) hC hG hS 2 rfl rfl rfl (by omega) dX5_request_152 (fun H locs hG => ?_)
                      have hB := bM_upx hB 2 (((96 * i) + (6 * (M 3 i))) + 2) (v := kk) rfl
                      refine lv_aload_n hx hb dX5_request_153 rfl (lv_at hl 1 rfl) ?_
                      refine q_mg hC hG hS i5 2 rfl k7 dX5_request_154 ?_
                      refine lv_iload hx hb dX5_request_157 (lv_at hl 0 rfl) ?_
                      refine n_iconst hC 3 dX5_request_159 ?_
                      refine n_iadd hC dX5_request_160 ?_
                      refine lv_iload hx hb dX5_request_161 (lv_at hl 6 rfl) ?_
                      refine q_ms (N := 28320) hC hG hS 2 rfl rfl rfl (by omega) dX5_request_163 (fun H locs hG => ?_)
                      have hB := bM_upx hB 2 (((96 * i) + (6 * (M 3 i))) + 3) (v := aa) rfl
                      refine lv_aload_n hx hb dX5_request_164 rfl (lv_at hl 1 rfl) ?_
                      refine q_mg hC hG hS i5 2 rfl k7 dX5_request_165 ?_
                      refine lv_iload hx hb dX5_request_168 (lv_at hl 0 rfl) ?_
                      refine n_iconst hC 4 dX5_request_170 ?_
                      refine n_iadd hC dX5_request_171 ?_
                      refine lv_iload hx hb dX5_request_172 (lv_at hl 7 rfl) ?_
                      refine q_ms (N := 28320) hC hG hS 2 rfl rfl rfl (by omega) dX5_request_174 (fun H locs hG => ?_)
                      have hB := bM_upx hB 2 (((96 * i) + (6 * (M 3 i))) + 4) (v := bb) rfl
                      refine lv_aload_n hx hb dX5_request_175 rfl (lv_at hl 1 rfl) ?_
                      refine q_mg hC hG hS i5 2 rfl k7 dX5_request_176 ?_
                      refine lv_iload hx hb dX5_request_179 (lv_at hl 0 rfl) ?_
                      refine n_iconst hC 5 dX5_request_181 ?_
                      refine n_iadd hC dX5_request_182 ?_
                      refine lv_iload hx hb dX5_request_183 (lv_at hl 8 rfl) ?_
                      refine q_ms (N := 28320) hC hG hS 2 rfl rfl rfl (by omega) dX5_request_185 (fun H locs hG => ?_)
                      have hB := bM_upx hB 2 (((96 * i) + (6 * (M 3 i))) + 5) (v := tN v) rfl
                      refine lv_aload_n hx hb dX5_request_186 rfl (lv_at hl 1 rfl) ?_
                      refine q_mg hC hG hS i5 3 rfl k13 dX5_request_187 ?_
                      refine lv_iload_n hx hb dX5_request_190 rfl (lv_at hl 2 rfl) ?_
                      refine lv_dup2_11 hx hb dX5_request_191 rfl rfl ?_
                      refine q_ml (N := 295) (w := M 3 i) hC hG hS 3 rfl rfl rfl (by omega) (by simp [up2, m_cp, m_cpk]) dX5_request_192 ?_
                      have b4 : M 3 i < 2147483648 := by have := hB.1 3 i rfl; first | exact this | (simp [up2, m_cp, m_cpk] at this; exact this) | omega
                      refine n_iconst hC 1 dX5_request_193 ?_
                      refine n_iadd hC dX5_request_194 ?_
                      refine q_ms (N := 295) hC hG hS 3 rfl rfl rfl (by omega) dX5_request_195 (fun H locs hG => ?_)
                      have hB := bM_up hB 3 i (v := (M 3 i) + 1) (by omega)
                      refine lv_aload_n hx hb dX5_request_196 rfl (lv_at hl 1 rfl) ?_
                      refine lv_iload_n hx hb dX5_request_197 rfl (lv_at hl 2 rfl) ?_
                      refine n_iconst hC 1 dX5_request_198 ?_
                      refine lv_aload_n hx hb dX5_request_199 rfl (lv_at hl 1 rfl) ?_
                      refine q_mg hC hG hS i5 6 rfl k22 dX5_request_200 ?_
                      refine lv_iload_n hx hb dX5_request_203 rfl (lv_at hl 2 rfl) ?_
                      refine q_ml (N := 5) (w := M 6 i) hC hG hS 6 rfl rfl rfl (by omega) (by simp [up2, m_cp, m_cpk]) dX5_request_204 ?_
                      have b5 : M 6 i < 2147483648 := by have := hB.1 6 i rfl; first | exact this | (simp [up2, m_cp, m_cpk] at this; exact this) | omega
                      refine n_iconst hC 0 dX5_request_205 ?_
                      refine q_callV (rest := []) (k_X5_postAll l D cA A hS hB i 1 (M 6 i) 0 (by omega) (by omega) (by omega) (by omega)) hC hG cF5 hS.1 4 gX5_request_X5_postAll rfl (by decide +kernel) ⟨by decide, by decide⟩ rfl hl.1 rfl (by simp [Value.category]) dX5_request_206 ⟨Nat.le_of_ble_eq_true rfl, Nat.le_of_ble_eq_true rfl⟩ (fun v Y H locs hq hG => ?_)
                      obtain ⟨rfl, rfl⟩ := hq
                      have hB := bM_pa (i := i) (k := 1) (v := M 6 i) (c := 0) hB (by omega) (by omega) (by omega) (by omega) n (by omega)
                      refine lv_istore (lv' := [(9, .int (nI (n - 1))), (8, .int (nI ((96 * i) + (6 * (M 3 i))))), (0, .ref mb), (1, .int (nI i)), (2, .int (nI ci)), (3, .int (nI x0)), (4, .int (nI kk)), (5, .int (nI aa)), (6, .int (nI bb)), (7, .int (nI (tN v)))]) hx hb dX5_request_209 hl (by decide) rfl (fun ls hl => ?_)
                      refine lv_aload_n hx hb dX5_request_211 rfl (lv_at hl 2 rfl) ?_
                      refine q_mg hC hG hS i5 3 rfl k13 dX5_request_212 ?_
                      refine lv_iload_n hx hb dX5_request_215 rfl (lv_at hl 3 rfl) ?_
                      refine q_ml (N := 295) (w := (m_pa (up2 (up2 (up2 (up2 (up2 (up2 (up2 M 2 ((96 * i) + (6 * (M 3 i))) ci) 2 (((96 * i) + (6 * (M 3 i))) + 1) x0) 2 (((96 * i) + (6 * (M 3 i))) + 2) kk) 2 (((96 * i) + (6 * (M 3 i))) + 3) aa) 2 (((96 * i) + (6 * (M 3 i))) + 4) bb) 2 (((96 * i) + (6 * (M 3 i))) + 5) (tN v)) 3 i ((M 3 i) + 1)) i 1 (M 6 i) 0 n) 3 i) hC hG hS 3 rfl rfl rfl (by omega) rfl dX5_request_216 ?_
                      have b6 : (m_pa (up2 (up2 (up2 (up2 (up2 (up2 (up2 M 2 ((96 * i) + (6 * (M 3 i))) ci) 2 (((96 * i) + (6 * (M 3 i))) + 1) x0) 2 (((96 * i) + (6 * (M 3 i))) + 2) kk) 2 (((96 * i) + (6 * (M 3 i))) + 3) aa) 2 (((96 * i) + (6 * (M 3 i))) + 4) bb) 2 (((96 * i) + (6 * (M 3 i))) + 5) (tN v)) 3 i ((M 3 i) + 1)) i 1 (M 6 i) 0 n) 3 i < 2147483648 := by have := hB.1 3 i rfl; first | exact this | (simp [up2, m_cp, m_cpk] at this; exact this) | omega
                      exact q_iret (v := (nI ((m_pa (up2 (up2 (up2 (up2 (up2 (up2 (up2 M 2 ((96 * i) + (6 * (M 3 i))) ci) 2 (((96 * i) + (6 * (M 3 i))) + 1) x0) 2 (((96 * i) + (6 * (M 3 i))) + 2) kk) 2 (((96 * i) + (6 * (M 3 i))) + 3) aa) 2 (((96 * i) + (6 * (M 3 i))) + 4) bb) 2 (((96 * i) + (6 * (M 3 i))) + 5) (tN v)) 3 i ((M 3 i) + 1)) i 1 (M 6 i) 0 n) 3 i))) hC hG hr hlk (⟨by simp only [m_request, m_req2, m_ent, if_neg c5, if_neg c14, if_neg c24, if_neg c34, if_neg c45, if_neg c56, if_pos c68, if_neg c76, if_neg c89, if_neg c102, t_i, t_ci, t_x0, t_kk, t_aa, t_bb, ↓reduceIte], by simp only [m_request, m_req2, m_ent, if_neg c5, if_neg c14, if_neg c24, if_neg c34, if_neg c45, if_neg c56, if_pos c68, if_neg c76, if_neg c89, if_neg c102, t_i, t_ci, t_x0, t_kk, t_aa, t_bb, ↓reduceIte]⟩) dX5_request_217
                    · refine lv_bipush (v := -4) hx hb dX5_request_105 (by decide) ?_
                      exact q_iret (v := (-4)) hC hG hr hlk (⟨by simp only [m_request, m_req2, m_ent, if_neg c5, if_neg c14, if_neg c24, if_neg c34, if_neg c45, if_neg c56, if_pos c68, if_neg c76, if_neg c89, if_pos c102, t_i, t_ci, t_x0, t_kk, t_aa, t_bb, ↓reduceIte], by simp only [m_request, m_req2, m_ent, if_neg c5, if_neg c14, if_neg c24, if_neg c34, if_neg c45, if_neg c56, if_pos c68, if_neg c76, if_neg c89, if_pos c102, t_i, t_ci, t_x0, t_kk, t_aa, t_bb, ↓reduceIte]⟩) dX5_request_107
                  · refine n_iconst hC 0 dX5_request_92 ?_
                    exact q_iret (v := (nI 0)) hC hG hr hlk (⟨by simp only [m_request, m_req2, m_ent, if_neg c5, if_neg c14, if_neg c24, if_neg c34, if_neg c45, if_neg c56, if_pos c68, if_neg c76, if_pos c89, t_i, t_ci, t_x0, t_kk, t_aa, t_bb, ↓reduceIte], by simp only [m_request, m_req2, m_ent, if_neg c5, if_neg c14, if_neg c24, if_neg c34, if_neg c45, if_neg c56, if_pos c68, if_neg c76, if_pos c89, t_i, t_ci, t_x0, t_kk, t_aa, t_bb, ↓reduceIte]⟩) dX5_request_93
                · refine lv_bipush (v := -3) hx hb dX5_request_79 (by decide) ?_
                  exact q_iret (v := (-3)) hC hG hr hlk (⟨by simp only [m_request, m_req2, m_ent, if_neg c5, if_neg c14, if_neg c24, if_neg c34, if_neg c45, if_neg c56, if_pos c68, if_pos c76, t_i, t_ci, t_x0, t_kk, t_aa, t_bb, ↓reduceIte], by simp only [m_request, m_req2, m_ent, if_neg c5, if_neg c14, if_neg c24, if_neg c34, if_neg c45, if_neg c56, if_pos c68, if_pos c76, t_i, t_ci, t_x0, t_kk, t_aa, t_bb, ↓reduceIte]⟩) dX5_request_81
            · refine lv_bipush (v := -2) hx hb dX5_request_59 (by decide) ?_
              exact q_iret (v := (-2)) hC hG hr hlk (⟨by simp only [m_request, m_req2, m_ent, if_neg c5, if_neg c14, if_neg c24, if_neg c34, if_neg c45, if_pos c56, ↓reduceIte], by simp only [m_request, m_req2, m_ent, if_neg c5, if_neg c14, if_neg c24, if_neg c34, if_neg c45, if_pos c56, ↓reduceIte]⟩) dX5_request_61

def m_there (M : MM) (letter : Int32) : Nat := if m_in letter (nI 0) (nI (M 17 0) - nI 1) = 0 then 0 else if M 24 (tN letter) = 0 then 1 else 0
theorem m_there_le (M : MM) (letter : Int32) : m_there M letter ≤ 1 := by unfold m_there; split <;> (try split) <;> decide
theorem m_there_of {M : MM} {letter : Int32} (h17 : M 17 0 ≤ 240) (h : m_there M letter ≠ 0) : ∃ l : Nat, l < M 17 0 ∧ letter = nI l ∧ M 24 l = 0 := by
  unfold m_there at h
  by_cases h1 : m_in letter (nI 0) (nI (M 17 0) - nI 1) = 0
  · rw [if_pos h1] at h; exact absurd rfl h
  · rw [if_neg h1] at h
    obtain ⟨l, hl, rfl⟩ := m_inL_of h17 h1
    rw [tN_nI (by omega)] at h
    by_cases h2 : M 24 l = 0
    · exact ⟨l, hl, rfl, h2⟩
    · rw [if_neg h2] at h; exact absurd rfl h

abbrev rmX5_isThere : Room := { frames := 1, cells := 0, slots := 0, locals := 22 }
set_option maxHeartbeats 4000000 in
set_option maxRecDepth 100000 in
theorem k_X5_isThere (l : Launch) (D : va_G) (cA : Nat → ClassId) (A : Nat → Prop) {mb n f : Nat} {X : Mem} {M : MM} (hS : mS mb n f X) (hB : bM M) (letter : Int32) : mt l D cA A yX5_isThere wsX5_isThere rmX5_isThere [.ref mb, .int letter] (sM mb X M) (fun w Y => w = some (.int (nI (m_there M letter))) ∧ Y = sM mb X M) := by
  refine q_start (by decide) rfl (Nat.le_of_ble_eq_true rfl) (fun p e s m args below meth c H locs hC hr hlk hnm hG ls hl => ?_)
  have hl : lv_has ls 2 [(0, .ref mb), (1, .int letter)] := hl
  have hx := hC.1.1
  have hb := hC.1.2.1
  have hts := hC.1.2.2.2.2
  have i5 : ∀ w ∈ wsX50, w ∈ wsX5_isThere := by decide +kernel
  have hnf := hS.2.2.2.2
  have h17 := hB.2
  have k71 := hts (.fieldLink RX5 71 "ViewStampsModel" "dropped" "[Z") (by decide +kernel)
  have k88 := hts (.fieldLink RX5 88 "ViewStampsModel" "letters" "I") (by decide +kernel)
  refine lv_iload_n hx hb dX5_isThere_0 rfl (lv_at hl 1 rfl) ?_
  refine n_iconst hC 0 dX5_isThere_1 ?_
  refine lv_aload_n hx hb dX5_isThere_2 rfl (lv_at hl 0 rfl) ?_
  refine q_mi (w := M 17 0) hC hG hS i5 17 (by decide) rfl k88 dX5_isThere_3 ?_
  have b1 : M 17 0 ≤ 240 := by have := hB.2; first | exact this | (simp [up2, m_cp, m_cpk] at this; exact this) | omega
  refine n_iconst hC 1 dX5_isThere_6 ?_
  refine lv_isub hx hb dX5_isThere_7 ?_
  refine q_callS (rest := []) (k_X5_in l D cA A _ letter (nI 0) ((nI (M 17 0)) - (nI 1))) hC hG 3 gX5_isThere_X5_in rfl (by decide +kernel) ⟨by decide, by decide⟩ rfl hl.1 rfl (by simp [Value.category]) dX5_isThere_8 ⟨Nat.le_of_ble_eq_true rfl, Nat.le_of_ble_eq_true rfl⟩ (fun v Y H locs hq hG => ?_)
  obtain ⟨rfl, rfl⟩ := hq
  have q8 := m_in_le letter (nI 0) ((nI (M 17 0)) - (nI 1))
  refine n_ifeq (tgt := 27) hC dX5_isThere_11 (by decide) (by omega) (fun c11 => ?_) (fun c11 => ?_)
  · refine n_iconst hC 0 dX5_isThere_27 ?_
    exact q_zret (v := 0) hC hG hr hlk (by first | decide | omega) (⟨by simp only [m_there, if_pos c11, ↓reduceIte], rfl⟩) dX5_isThere_28
  · obtain ⟨j, hj, rfl⟩ := m_inL_of hB.2 c11
    have t_j : tN (nI j) = j := tN_nI (by omega)
    refine lv_aload_n hx hb dX5_isThere_14 rfl (lv_at hl 0 rfl) ?_
    refine q_mg hC hG hS i5 24 rfl k71 dX5_isThere_15 ?_
    refine lv_iload_n hx hb dX5_isThere_18 rfl (lv_at hl 1 rfl) ?_
    refine q_mlz (N := 240) (w := M 24 j) hC hG hS 24 rfl rfl rfl (by omega) rfl dX5_isThere_19 ?_
    have b2 : M 24 j < 2147483648 := by have := hB.1 24 j rfl; first | exact this | (simp [up2, m_cp, m_cpk] at this; exact this) | omega
    refine n_ifne (tgt := 27) hC dX5_isThere_20 (by decide) (by omega) (fun c20 => ?_) (fun c20 => ?_)
    · refine n_iconst hC 0 dX5_isThere_27 ?_
      exact q_zret (v := 0) hC hG hr hlk (by first | decide | omega) (⟨by simp only [m_there, if_neg c11, if_neg c20, t_j, ↓reduceIte], rfl⟩) dX5_isThere_28
    · refine n_iconst hC 1 dX5_isThere_23 ?_
      refine lv_goto (tgt := 28) hx hb dX5_isThere_24 (by decide) ?_
      exact q_zret (v := 1) hC hG hr hlk (by first | decide | omega) (⟨by simp only [m_there, if_neg c11, if_pos c20, t_j, ↓reduceIte], rfl⟩) dX5_isThere_28

def m_does2 (n f : Nat) (M : MM) (l : Nat) : Nat × MM :=
  if M 21 l = 1 then m_pre n M (M 20 l) (55 + l) (M 22 l) else if M 21 l = 2 then m_hea n f M (M 20 l) (M 19 l) (M 22 l) (M 23 l) else if M 21 l = 3 then m_ask n f M (M 20 l) (M 19 l) (M 22 l) else if M 21 l = 4 then m_vot n f M (M 20 l) (M 19 l) (55 + l) (M 22 l) (M 23 l) else if M 21 l = 5 then m_pre n M (M 20 l) (55 + l) (M 22 l) else if M 21 l = 6 then
    (if M 5 (M 20 l) = 0 then (1, m_post M (M 20 l) (M 19 l) 7 (M 6 (M 20 l)) (M 23 l)) else (0, M)) else m_tal n f M (M 20 l) (M 19 l) (55 + l) (M 22 l) (M 23 l)
def m_does (n f : Nat) (M : MM) (l : Nat) : Nat × MM := if 5 < M 21 l then m_does2 n f M l else if 2 ≤ M 5 (M 20 l) then (0, M) else if M 6 (M 20 l) ≤ M 22 l then m_does2 n f M l else (0, M)
theorem m_does2_le (n f : Nat) (M : MM) (l : Nat) : (m_does2 n f M l).1 ≤ 1 := by
  unfold m_does2
  split
  · exact m_pre_le _ _ _ _ _
  · split
    · exact m_hea_le _ _ _ _ _ _ _
    · split
      · exact m_ask_le _ _ _ _ _ _
      · split
        · exact m_vot_le _ _ _ _ _ _ _ _
        · split
          · exact m_pre_le _ _ _ _ _
          · split
            · split
              · exact Nat.le_refl 1
              · exact Nat.zero_le 1
            · exact m_tal_le _ _ _ _ _ _ _ _
theorem m_does_le (n f : Nat) (M : MM) (l : Nat) : (m_does n f M l).1 ≤ 1 := by
  unfold m_does
  split
  · exact m_does2_le n f M l
  · split
    · exact Nat.zero_le 1
    · split
      · exact m_does2_le n f M l
      · exact Nat.zero_le 1

abbrev rmX5_does : Room := { frames := 5, cells := 0, slots := 0, locals := 128 }
set_option maxHeartbeats 4000000 in
set_option maxRecDepth 100000 in
theorem k_X5_does (l : Launch) (D : va_G) (cA : Nat → ClassId) (A : Nat → Prop) {mb n f : Nat} {X : Mem} {M : MM} (hS : mS mb n f X) (hB : bM M) (hP : mP n M) (l0 : Nat) (hl0 : l0 < M 17 0) : mt l D cA A yX5_does wsX5_does rmX5_does [.ref mb, .int (nI l0)] (sM mb X M) (fun w Y => w = some (.int (nI (m_does n f M l0).1)) ∧ Y = sM mb X (m_does n f M l0).2) := by
  refine q_start (by decide) rfl (Nat.le_of_ble_eq_true rfl) (fun p e s m args below meth c H locs hC hr hlk hnm hG ls hl => ?_)
  have hl : lv_has ls 5 [(0, .ref mb), (1, .int (nI l0))] := hl
  have hx := hC.1.1
  have hb := hC.1.2.1
  have hts := hC.1.2.2.2.2
  have i5 : ∀ w ∈ wsX50, w ∈ wsX5_does := by decide +kernel
  have hnf := hS.2.2.2.2
  have h17 := hB.2
  have hP0 := hP l0 hl0
  have k19 := hts (.fieldLink RX5 19 "ViewStampsModel" "status" "[I") (by decide +kernel)
  have k22 := hts (.fieldLink RX5 22 "ViewStampsModel" "view" "[I") (by decide +kernel)
  have k56 := hts (.fieldLink RX5 56 "ViewStampsModel" "from" "[I") (by decide +kernel)
  have k59 := hts (.fieldLink RX5 59 "ViewStampsModel" "to" "[I") (by decide +kernel)
  have k62 := hts (.fieldLink RX5 62 "ViewStampsModel" "sort" "[I") (by decide +kernel)
  have k65 := hts (.fieldLink RX5 65 "ViewStampsModel" "letterView" "[I") (by decide +kernel)
  have k68 := hts (.fieldLink RX5 68 "ViewStampsModel" "counts" "[I") (by decide +kernel)
  refine lv_aload_n hx hb dX5_does_0 rfl (lv_at hl 0 rfl) ?_
  refine q_mg hC hG hS i5 20 rfl k59 dX5_does_1 ?_
  refine lv_iload_n hx hb dX5_does_4 rfl (lv_at hl 1 rfl) ?_
  refine q_ml (N := 240) (w := M 20 l0) hC hG hS 20 rfl rfl rfl (by omega) rfl dX5_does_5 ?_
  have b1 : M 20 l0 < 2147483648 := by have := hB.1 20 l0 rfl; first | exact this | (simp [up2, m_cp, m_cpk] at this; exact this) | omega
  refine lv_istore_n (lv' := [(2, .int (nI (M 20 l0))), (0, .ref mb), (1, .int (nI l0))]) hx hb dX5_does_6 rfl hl (by decide) rfl (fun ls hl => ?_)
  refine lv_aload_n hx hb dX5_does_7 rfl (lv_at hl 1 rfl) ?_
  refine q_mg hC hG hS i5 22 rfl k65 dX5_does_8 ?_
  refine lv_iload_n hx hb dX5_does_11 rfl (lv_at hl 2 rfl) ?_
  refine q_ml (N := 240) (w := M 22 l0) hC hG hS 22 rfl rfl rfl (by omega) rfl dX5_does_12 ?_
  have b2 : M 22 l0 < 2147483648 := by have := hB.1 22 l0 rfl; first | exact this | (simp [up2, m_cp, m_cpk] at this; exact this) | omega
  refine lv_istore_n (lv' := [(3, .int (nI (M 22 l0))), (2, .int (nI (M 20 l0))), (0, .ref mb), (1, .int (nI l0))]) hx hb dX5_does_13 rfl hl (by decide) rfl (fun ls hl => ?_)
  refine n_bipush hC 55 (by decide) dX5_does_14 ?_
  refine lv_iload_n hx hb dX5_does_16 rfl (lv_at hl 3 rfl) ?_
  refine n_iadd hC dX5_does_17 ?_
  refine lv_istore (lv' := [(4, .int (nI (55 + l0))), (3, .int (nI (M 22 l0))), (2, .int (nI (M 20 l0))), (0, .ref mb), (1, .int (nI l0))]) hx hb dX5_does_18 hl (by decide) rfl (fun ls hl => ?_)
  refine lv_aload_n hx hb dX5_does_20 rfl (lv_at hl 3 rfl) ?_
  refine q_mg hC hG hS i5 21 rfl k62 dX5_does_21 ?_
  refine lv_iload_n hx hb dX5_does_24 rfl (lv_at hl 4 rfl) ?_
  refine q_ml (N := 240) (w := M 21 l0) hC hG hS 21 rfl rfl rfl (by omega) rfl dX5_does_25 ?_
  have b3 : M 21 l0 < 2147483648 := by have := hB.1 21 l0 rfl; first | exact this | (simp [up2, m_cp, m_cpk] at this; exact this) | omega
  refine n_iconst hC 5 dX5_does_26 ?_
  refine n_gt (tgt := 52) hC dX5_does_27 (by decide) (by omega) (by omega) (fun c27 => ?_) (fun c27 => ?_)
  · have c27n := Nat.not_le.mpr c27
    refine lv_aload_n hx hb dX5_does_52 rfl (lv_at hl 3 rfl) ?_
    refine q_mg hC hG hS i5 21 rfl k62 dX5_does_53 ?_
    refine lv_iload_n hx hb dX5_does_56 rfl (lv_at hl 4 rfl) ?_
    refine q_ml (N := 240) (w := M 21 l0) hC hG hS 21 rfl rfl rfl (by omega) rfl dX5_does_57 ?_
    have b4 : M 21 l0 < 2147483648 := by have := hB.1 21 l0 rfl; first | exact this | (simp [up2, m_cp, m_cpk] at this; exact this) | omega
    by_cases c58x1 : M 21 l0 = 1
    · refine lv_tableIn (off := 38) (tgt := 96) hx hb dX5_does_58 (by rw [c58x1]; decide +kernel) (by rw [c58x1]; decide +kernel) (by rw [c58x1]; decide +kernel) (by decide) ?_
      refine lv_aload_n hx hb dX5_does_96 rfl (lv_at hl 3 rfl) ?_
      refine lv_iload_n hx hb dX5_does_97 rfl (lv_at hl 2 rfl) ?_
      refine lv_iload hx hb dX5_does_98 (lv_at hl 0 rfl) ?_
      refine lv_iload_n hx hb dX5_does_100 rfl (lv_at hl 1 rfl) ?_
      refine q_callV (rest := []) (k_X5_prepares l D cA A hS hB (M 20 l0) (55 + l0) (M 22 l0) (by omega) (by omega) (by omega)) hC hG cF5 hS.1 3 gX5_does_X5_prepares rfl (by decide +kernel) ⟨by decide, by decide⟩ rfl hl.1 rfl (by simp [Value.category]) dX5_does_101 ⟨Nat.le_of_ble_eq_true rfl, Nat.le_of_ble_eq_true rfl⟩ (fun v Y H locs hq hG => ?_)
      obtain ⟨rfl, rfl⟩ := hq
      have hB := bM_pre (n := n) (i := M 20 l0) (g := 55 + l0) (v := M 22 l0) hB (by omega) (by omega) (by omega)
      have q101 := m_pre_le n M (M 20 l0) (55 + l0) (M 22 l0)
      exact q_zret (v := ((m_pre n M (M 20 l0) (55 + l0) (M 22 l0)).1)) hC hG hr hlk (by first | decide | omega) (⟨by simp only [m_does, m_does2, if_pos c27, if_neg c27n, if_pos c58x1, ↓reduceIte], by simp only [m_does, m_does2, if_pos c27, if_neg c27n, if_pos c58x1, ↓reduceIte]⟩) dX5_does_104
    by_cases c58x2 : M 21 l0 = 2
    · refine lv_tableIn (off := 47) (tgt := 105) hx hb dX5_does_58 (by rw [c58x2]; decide +kernel) (by rw [c58x2]; decide +kernel) (by rw [c58x2]; decide +kernel) (by decide) ?_
      refine lv_aload_n hx hb dX5_does_105 rfl (lv_at hl 3 rfl) ?_
      refine lv_iload_n hx hb dX5_does_106 rfl (lv_at hl 2 rfl) ?_
      refine lv_aload_n hx hb dX5_does_107 rfl (lv_at hl 3 rfl) ?_
      refine q_mg hC hG hS i5 19 rfl k56 dX5_does_108 ?_
      refine lv_iload_n hx hb dX5_does_111 rfl (lv_at hl 4 rfl) ?_
      refine q_ml (N := 240) (w := M 19 l0) hC hG hS 19 rfl rfl rfl (by omega) rfl dX5_does_112 ?_
      have b5 : M 19 l0 < 2147483648 := by have := hB.1 19 l0 rfl; first | exact this | (simp [up2, m_cp, m_cpk] at this; exact this) | omega
      refine lv_iload_n hx hb dX5_does_113 rfl (lv_at hl 1 rfl) ?_
      refine lv_aload_n hx hb dX5_does_114 rfl (lv_at hl 3 rfl) ?_
      refine q_mg hC hG hS i5 23 rfl k68 dX5_does_115 ?_
      refine lv_iload_n hx hb dX5_does_118 rfl (lv_at hl 4 rfl) ?_
      refine q_ml (N := 240) (w := M 23 l0) hC hG hS 23 rfl rfl rfl (by omega) rfl dX5_does_119 ?_
      have b6 : M 23 l0 < 2147483648 := by have := hB.1 23 l0 rfl; first | exact this | (simp [up2, m_cp, m_cpk] at this; exact this) | omega
      refine q_callV (rest := []) (k_X5_hears l D cA A hS hB (M 20 l0) (M 19 l0) (M 22 l0) (M 23 l0) (by omega) (by omega) (by omega) (by omega)) hC hG cF5 hS.1 4 gX5_does_X5_hears rfl (by decide +kernel) ⟨by decide, by decide⟩ rfl hl.1 rfl (by simp [Value.category]) dX5_does_120 ⟨Nat.le_of_ble_eq_true rfl, Nat.le_of_ble_eq_true rfl⟩ (fun v Y H locs hq hG => ?_)
      obtain ⟨rfl, rfl⟩ := hq
      have hB := bM_hea (n := n) (f := f) (i := M 20 l0) (s := M 19 l0) (v := M 22 l0) (c := M 23 l0) hB (by omega)
      have q120 := m_hea_le n f M (M 20 l0) (M 19 l0) (M 22 l0) (M 23 l0)
      exact q_zret (v := ((m_hea n f M (M 20 l0) (M 19 l0) (M 22 l0) (M 23 l0)).1)) hC hG hr hlk (by first | decide | omega) (⟨by simp only [m_does, m_does2, if_pos c27, if_neg c27n, if_neg c58x1, if_pos c58x2, ↓reduceIte], by simp only [m_does, m_does2, if_pos c27, if_neg c27n, if_neg c58x1, if_pos c58x2, ↓reduceIte]⟩) dX5_does_123
    by_cases c58x3 : M 21 l0 = 3
    · refine lv_tableIn (off := 66) (tgt := 124) hx hb dX5_does_58 (by rw [c58x3]; decide +kernel) (by rw [c58x3]; decide +kernel) (by rw [c58x3]; decide +kernel) (by decide) ?_
      refine lv_aload_n hx hb dX5_does_124 rfl (lv_at hl 3 rfl) ?_
      refine lv_iload_n hx hb dX5_does_125 rfl (lv_at hl 2 rfl) ?_
      refine lv_aload_n hx hb dX5_does_126 rfl (lv_at hl 3 rfl) ?_
      refine q_mg hC hG hS i5 19 rfl k56 dX5_does_127 ?_
      refine lv_iload_n hx hb dX5_does_130 rfl (lv_at hl 4 rfl) ?_
      refine q_ml (N := 240) (w := M 19 l0) hC hG hS 19 rfl rfl rfl (by omega) rfl dX5_does_131 ?_
      have b7 : M 19 l0 < 2147483648 := by have := hB.1 19 l0 rfl; first | exact this | (simp [up2, m_cp, m_cpk] at this; exact this) | omega
      refine lv_iload_n hx hb dX5_does_132 rfl (lv_at hl 1 rfl) ?_
      refine q_callV (rest := []) (k_X5_isAsked l D cA A hS hB (M 20 l0) (M 19 l0) (M 22 l0) (by omega) (by omega) (by omega)) hC hG cF5 hS.1 3 gX5_does_X5_isAsked rfl (by decide +kernel) ⟨by decide, by decide⟩ rfl hl.1 rfl (by simp [Value.category]) dX5_does_133 ⟨Nat.le_of_ble_eq_true rfl, Nat.le_of_ble_eq_true rfl⟩ (fun v Y H locs hq hG => ?_)
      obtain ⟨rfl, rfl⟩ := hq
      have hB := bM_ask (n := n) (f := f) (i := M 20 l0) (s := M 19 l0) (v := M 22 l0) hB (by omega) (by omega) (by omega)
      have q133 := m_ask_le n f M (M 20 l0) (M 19 l0) (M 22 l0)
      exact q_zret (v := ((m_ask n f M (M 20 l0) (M 19 l0) (M 22 l0)).1)) hC hG hr hlk (by first | decide | omega) (⟨by simp only [m_does, m_does2, if_pos c27, if_neg c27n, if_neg c58x1, if_neg c58x2, if_pos c58x3, ↓reduceIte], by simp only [m_does, m_does2, if_pos c27, if_neg c27n, if_neg c58x1, if_neg c58x2, if_pos c58x3, ↓reduceIte]⟩) dX5_does_136
    by_cases c58x4 : M 21 l0 = 4
    · refine lv_tableIn (off := 79) (tgt := 137) hx hb dX5_does_58 (by rw [c58x4]; decide +kernel) (by rw [c58x4]; decide +kernel) (by rw [c58x4]; decide +kernel) (by decide) ?_
      refine lv_aload_n hx hb dX5_does_137 rfl (lv_at hl 3 rfl) ?_
      refine lv_iload_n hx hb dX5_does_138 rfl (lv_at hl 2 rfl) ?_
      refine lv_aload_n hx hb dX5_does_139 rfl (lv_at hl 3 rfl) ?_
      refine q_mg hC hG hS i5 19 rfl k56 dX5_does_140 ?_
      refine lv_iload_n hx hb dX5_does_143 rfl (lv_at hl 4 rfl) ?_
      refine q_ml (N := 240) (w := M 19 l0) hC hG hS 19 rfl rfl rfl (by omega) rfl dX5_does_144 ?_
      have b8 : M 19 l0 < 2147483648 := by have := hB.1 19 l0 rfl; first | exact this | (simp [up2, m_cp, m_cpk] at this; exact this) | omega
      refine lv_iload hx hb dX5_does_145 (lv_at hl 0 rfl) ?_
      refine lv_iload_n hx hb dX5_does_147 rfl (lv_at hl 1 rfl) ?_
      refine lv_aload_n hx hb dX5_does_148 rfl (lv_at hl 3 rfl) ?_
      refine q_mg hC hG hS i5 23 rfl k68 dX5_does_149 ?_
      refine lv_iload_n hx hb dX5_does_152 rfl (lv_at hl 4 rfl) ?_
      refine q_ml (N := 240) (w := M 23 l0) hC hG hS 23 rfl rfl rfl (by omega) rfl dX5_does_153 ?_
      have b9 : M 23 l0 < 2147483648 := by have := hB.1 23 l0 rfl; first | exact this | (simp [up2, m_cp, m_cpk] at this; exact this) | omega
      refine q_callV (rest := []) (k_X5_isVoted l D cA A hS hB (M 20 l0) (M 19 l0) (55 + l0) (M 22 l0) (M 23 l0) (by omega) (by omega) (by omega) (by omega) (by omega)) hC hG cF5 hS.1 5 gX5_does_X5_isVoted rfl (by decide +kernel) ⟨by decide, by decide⟩ rfl hl.1 rfl (by simp [Value.category]) dX5_does_154 ⟨Nat.le_of_ble_eq_true rfl, Nat.le_of_ble_eq_true rfl⟩ (fun v Y H locs hq hG => ?_)
      obtain ⟨rfl, rfl⟩ := hq
      have hB := bM_vot (n := n) (f := f) (i := M 20 l0) (s := M 19 l0) (g := 55 + l0) (v := M 22 l0) (c := M 23 l0) hB (by omega) (by omega) (by omega) (by omega)
      have q154 := m_vot_le n f M (M 20 l0) (M 19 l0) (55 + l0) (M 22 l0) (M 23 l0)
      exact q_zret (v := ((m_vot n f M (M 20 l0) (M 19 l0) (55 + l0) (M 22 l0) (M 23 l0)).1)) hC hG hr hlk (by first | decide | omega) (⟨by simp only [m_does, m_does2, if_pos c27, if_neg c27n, if_neg c58x1, if_neg c58x2, if_neg c58x3, if_pos c58x4, ↓reduceIte], by simp only [m_does, m_does2, if_pos c27, if_neg c27n, if_neg c58x1, if_neg c58x2, if_neg c58x3, if_pos c58x4, ↓reduceIte]⟩) dX5_does_157
    by_cases c58x5 : M 21 l0 = 5
    · refine lv_tableIn (off := 38) (tgt := 96) hx hb dX5_does_58 (by rw [c58x5]; decide +kernel) (by rw [c58x5]; decide +kernel) (by rw [c58x5]; decide +kernel) (by decide) ?_
      refine lv_aload_n hx hb dX5_does_96 rfl (lv_at hl 3 rfl) ?_
      refine lv_iload_n hx hb dX5_does_97 rfl (lv_at hl 2 rfl) ?_
      refine lv_iload hx hb dX5_does_98 (lv_at hl 0 rfl) ?_
      refine lv_iload_n hx hb dX5_does_100 rfl (lv_at hl 1 rfl) ?_
      refine q_callV (rest := []) (k_X5_prepares l D cA A hS hB (M 20 l0) (55 + l0) (M 22 l0) (by omega) (by omega) (by omega)) hC hG cF5 hS.1 3 gX5_does_X5_prepares rfl (by decide +kernel) ⟨by decide, by decide⟩ rfl hl.1 rfl (by simp [Value.category]) dX5_does_101 ⟨Nat.le_of_ble_eq_true rfl, Nat.le_of_ble_eq_true rfl⟩ (fun v Y H locs hq hG => ?_)
      obtain ⟨rfl, rfl⟩ := hq
      have hB := bM_pre (n := n) (i := M 20 l0) (g := 55 + l0) (v := M 22 l0) hB (by omega) (by omega) (by omega)
      have q101 := m_pre_le n M (M 20 l0) (55 + l0) (M 22 l0)
      exact q_zret (v := ((m_pre n M (M 20 l0) (55 + l0) (M 22 l0)).1)) hC hG hr hlk (by first | decide | omega) (⟨by simp only [m_does, m_does2, if_pos c27, if_neg c27n, if_neg c58x1, if_neg c58x2, if_neg c58x3, if_neg c58x4, if_pos c58x5, ↓reduceIte], by simp only [m_does, m_does2, if_pos c27, if_neg c27n, if_neg c58x1, if_neg c58x2, if_neg c58x3, if_neg c58x4, if_pos c58x5, ↓reduceIte]⟩) dX5_does_104
    by_cases c58x6 : M 21 l0 = 6
    · refine lv_tableIn (off := 100) (tgt := 158) hx hb dX5_does_58 (by rw [c58x6]; decide +kernel) (by rw [c58x6]; decide +kernel) (by rw [c58x6]; decide +kernel) (by decide) ?_
      refine lv_aload_n hx hb dX5_does_158 rfl (lv_at hl 3 rfl) ?_
      refine q_mg hC hG hS i5 5 rfl k19 dX5_does_159 ?_
      refine lv_iload_n hx hb dX5_does_162 rfl (lv_at hl 2 rfl) ?_
      refine q_ml (N := 5) (w := M 5 (M 20 l0)) hC hG hS 5 rfl rfl rfl (by omega) rfl dX5_does_163 ?_
      have b10 : M 5 (M 20 l0) < 2147483648 := by have := hB.1 5 (M 20 l0) rfl; first | exact this | (simp [up2, m_cp, m_cpk] at this; exact this) | omega
      refine n_ifeq (tgt := 169) hC dX5_does_164 (by decide) (by omega) (fun c164 => ?_) (fun c164 => ?_)
      · refine lv_aload_n hx hb dX5_does_169 rfl (lv_at hl 3 rfl) ?_
        refine lv_iload_n hx hb dX5_does_170 rfl (lv_at hl 2 rfl) ?_
        refine lv_aload_n hx hb dX5_does_171 rfl (lv_at hl 3 rfl) ?_
        refine q_mg hC hG hS i5 19 rfl k56 dX5_does_172 ?_
        refine lv_iload_n hx hb dX5_does_175 rfl (lv_at hl 4 rfl) ?_
        refine q_ml (N := 240) (w := M 19 l0) hC hG hS 19 rfl rfl rfl (by omega) rfl dX5_does_176 ?_
        have b11 : M 19 l0 < 2147483648 := by have := hB.1 19 l0 rfl; first | exact this | (simp [up2, m_cp, m_cpk] at this; exact this) | omega
        refine n_bipush hC 7 (by decide) dX5_does_177 ?_
        refine lv_aload_n hx hb dX5_does_179 rfl (lv_at hl 3 rfl) ?_
        refine q_mg hC hG hS i5 6 rfl k22 dX5_does_180 ?_
        refine lv_iload_n hx hb dX5_does_183 rfl (lv_at hl 2 rfl) ?_
        refine q_ml (N := 5) (w := M 6 (M 20 l0)) hC hG hS 6 rfl rfl rfl (by omega) rfl dX5_does_184 ?_
        have b12 : M 6 (M 20 l0) < 2147483648 := by have := hB.1 6 (M 20 l0) rfl; first | exact this | (simp [up2, m_cp, m_cpk] at this; exact this) | omega
        refine lv_aload_n hx hb dX5_does_185 rfl (lv_at hl 3 rfl) ?_
        refine q_mg hC hG hS i5 23 rfl k68 dX5_does_186 ?_
        refine lv_iload_n hx hb dX5_does_189 rfl (lv_at hl 4 rfl) ?_
        refine q_ml (N := 240) (w := M 23 l0) hC hG hS 23 rfl rfl rfl (by omega) rfl dX5_does_190 ?_
        have b13 : M 23 l0 < 2147483648 := by have := hB.1 23 l0 rfl; first | exact this | (simp [up2, m_cp, m_cpk] at this; exact this) | omega
        refine q_callV (rest := []) (k_X5_post l D cA A hS hB (M 20 l0) (M 19 l0) 7 (M 6 (M 20 l0)) (M 23 l0) (by omega) (by omega) (by omega) (by omega) (by omega)) hC hG cF5 hS.1 5 gX5_does_X5_post rfl (by decide +kernel) ⟨by decide, by decide⟩ rfl hl.1 rfl (by simp [Value.category]) dX5_does_191 ⟨Nat.le_of_ble_eq_true rfl, Nat.le_of_ble_eq_true rfl⟩ (fun v Y H locs hq hG => ?_)
        obtain ⟨rfl, rfl⟩ := hq
        have hB := bM_post (i := M 20 l0) (j := M 19 l0) (k := 7) (v := M 6 (M 20 l0)) (c := M 23 l0) hB (by omega) (by omega) (by omega) (by omega) (by omega)
        refine n_iconst hC 1 dX5_does_194 ?_
        exact q_zret (v := 1) hC hG hr hlk (by first | decide | omega) (⟨by simp only [m_does, m_does2, if_pos c27, if_neg c27n, if_neg c58x1, if_neg c58x2, if_neg c58x3, if_neg c58x4, if_neg c58x5, if_pos c58x6, if_pos c164, ↓reduceIte], by simp only [m_does, m_does2, if_pos c27, if_neg c27n, if_neg c58x1, if_neg c58x2, if_neg c58x3, if_neg c58x4, if_neg c58x5, if_pos c58x6, if_pos c164, ↓reduceIte]⟩) dX5_does_195
      · refine n_iconst hC 0 dX5_does_167 ?_
        exact q_zret (v := 0) hC hG hr hlk (by first | decide | omega) (⟨by simp only [m_does, m_does2, if_pos c27, if_neg c27n, if_neg c58x1, if_neg c58x2, if_neg c58x3, if_neg c58x4, if_neg c58x5, if_pos c58x6, if_neg c164, ↓reduceIte], by simp only [m_does, m_does2, if_pos c27, if_neg c27n, if_neg c58x1, if_neg c58x2, if_neg c58x3, if_neg c58x4, if_neg c58x5, if_pos c58x6, if_neg c164, ↓reduceIte]⟩) dX5_does_168
    refine lv_tableOut (tgt := 196) hx hb dX5_does_58 (by rw [nI_toInt (by omega)]; omega) (by decide) ?_
    refine lv_aload_n hx hb dX5_does_196 rfl (lv_at hl 3 rfl) ?_
    refine lv_iload_n hx hb dX5_does_197 rfl (lv_at hl 2 rfl) ?_
    refine lv_aload_n hx hb dX5_does_198 rfl (lv_at hl 3 rfl) ?_
    refine q_mg hC hG hS i5 19 rfl k56 dX5_does_199 ?_
    refine lv_iload_n hx hb dX5_does_202 rfl (lv_at hl 4 rfl) ?_
    refine q_ml (N := 240) (w := M 19 l0) hC hG hS 19 rfl rfl rfl (by omega) rfl dX5_does_203 ?_
    have b14 : M 19 l0 < 2147483648 := by have := hB.1 19 l0 rfl; first | exact this | (simp [up2, m_cp, m_cpk] at this; exact this) | omega
    refine lv_iload hx hb dX5_does_204 (lv_at hl 0 rfl) ?_
    refine lv_iload_n hx hb dX5_does_206 rfl (lv_at hl 1 rfl) ?_
    refine lv_aload_n hx hb dX5_does_207 rfl (lv_at hl 3 rfl) ?_
    refine q_mg hC hG hS i5 23 rfl k68 dX5_does_208 ?_
    refine lv_iload_n hx hb dX5_does_211 rfl (lv_at hl 4 rfl) ?_
    refine q_ml (N := 240) (w := M 23 l0) hC hG hS 23 rfl rfl rfl (by omega) rfl dX5_does_212 ?_
    have b15 : M 23 l0 < 2147483648 := by have := hB.1 23 l0 rfl; first | exact this | (simp [up2, m_cp, m_cpk] at this; exact this) | omega
    refine q_callV (rest := []) (k_X5_hearsTale l D cA A hS hB (M 20 l0) (M 19 l0) (55 + l0) (M 22 l0) (M 23 l0) (by omega) (by omega) (by omega) (by omega) (by omega)) hC hG cF5 hS.1 5 gX5_does_X5_hearsTale rfl (by decide +kernel) ⟨by decide, by decide⟩ rfl hl.1 rfl (by simp [Value.category]) dX5_does_213 ⟨Nat.le_of_ble_eq_true rfl, Nat.le_of_ble_eq_true rfl⟩ (fun v Y H locs hq hG => ?_)
    obtain ⟨rfl, rfl⟩ := hq
    have hB := bM_tal (n := n) (f := f) (i := M 20 l0) (s := M 19 l0) (g := 55 + l0) (v := M 22 l0) (c := M 23 l0) hB (by omega)
    have q213 := m_tal_le n f M (M 20 l0) (M 19 l0) (55 + l0) (M 22 l0) (M 23 l0)
    exact q_zret (v := ((m_tal n f M (M 20 l0) (M 19 l0) (55 + l0) (M 22 l0) (M 23 l0)).1)) hC hG hr hlk (by first | decide | omega) (⟨by simp only [m_does, m_does2, if_pos c27, if_neg c27n, if_neg c58x1, if_neg c58x2, if_neg c58x3, if_neg c58x4, if_neg c58x5, if_neg c58x6, ↓reduceIte], by simp only [m_does, m_does2, if_pos c27, if_neg c27n, if_neg c58x1, if_neg c58x2, if_neg c58x3, if_neg c58x4, if_neg c58x5, if_neg c58x6, ↓reduceIte]⟩) dX5_does_216
  · have c27n := Nat.not_lt.mpr c27
    refine lv_aload_n hx hb dX5_does_30 rfl (lv_at hl 3 rfl) ?_
    refine q_mg hC hG hS i5 5 rfl k19 dX5_does_31 ?_
    refine lv_iload_n hx hb dX5_does_34 rfl (lv_at hl 2 rfl) ?_
    refine q_ml (N := 5) (w := M 5 (M 20 l0)) hC hG hS 5 rfl rfl rfl (by omega) rfl dX5_does_35 ?_
    have b16 : M 5 (M 20 l0) < 2147483648 := by have := hB.1 5 (M 20 l0) rfl; first | exact this | (simp [up2, m_cp, m_cpk] at this; exact this) | omega
    refine n_iconst hC 2 dX5_does_36 ?_
    refine n_ge (tgt := 50) hC dX5_does_37 (by decide) (by omega) (by omega) (fun c37 => ?_) (fun c37 => ?_)
    · have c37n := Nat.not_lt.mpr c37
      refine n_iconst hC 0 dX5_does_50 ?_
      exact q_zret (v := 0) hC hG hr hlk (by first | decide | omega) (⟨by simp only [m_does, m_does2, if_pos c27, if_neg c27n, if_pos c37, if_neg c37n, ↓reduceIte], by simp only [m_does, m_does2, if_pos c27, if_neg c27n, if_pos c37, if_neg c37n, ↓reduceIte]⟩) dX5_does_51
    · have c37n := Nat.not_le.mpr c37
      refine lv_aload_n hx hb dX5_does_40 rfl (lv_at hl 3 rfl) ?_
      refine q_mg hC hG hS i5 6 rfl k22 dX5_does_41 ?_
      refine lv_iload_n hx hb dX5_does_44 rfl (lv_at hl 2 rfl) ?_
      refine q_ml (N := 5) (w := M 6 (M 20 l0)) hC hG hS 6 rfl rfl rfl (by omega) rfl dX5_does_45 ?_
      have b17 : M 6 (M 20 l0) < 2147483648 := by have := hB.1 6 (M 20 l0) rfl; first | exact this | (simp [up2, m_cp, m_cpk] at this; exact this) | omega
      refine lv_iload_n hx hb dX5_does_46 rfl (lv_at hl 1 rfl) ?_
      refine n_le (tgt := 52) hC dX5_does_47 (by decide) (by omega) (by omega) (fun c47 => ?_) (fun c47 => ?_)
      · have c47n := Nat.not_lt.mpr c47
        refine lv_aload_n hx hb dX5_does_52 rfl (lv_at hl 3 rfl) ?_
        refine q_mg hC hG hS i5 21 rfl k62 dX5_does_53 ?_
        refine lv_iload_n hx hb dX5_does_56 rfl (lv_at hl 4 rfl) ?_
        refine q_ml (N := 240) (w := M 21 l0) hC hG hS 21 rfl rfl rfl (by omega) rfl dX5_does_57 ?_
        have b18 : M 21 l0 < 2147483648 := by have := hB.1 21 l0 rfl; first | exact this | (simp [up2, m_cp, m_cpk] at this; exact this) | omega
        by_cases c58x1 : M 21 l0 = 1
        · refine lv_tableIn (off := 38) (tgt := 96) hx hb dX5_does_58 (by rw [c58x1]; decide +kernel) (by rw [c58x1]; decide +kernel) (by rw [c58x1]; decide +kernel) (by decide) ?_
          refine lv_aload_n hx hb dX5_does_96 rfl (lv_at hl 3 rfl) ?_
          refine lv_iload_n hx hb dX5_does_97 rfl (lv_at hl 2 rfl) ?_
          refine lv_iload hx hb dX5_does_98 (lv_at hl 0 rfl) ?_
          refine lv_iload_n hx hb dX5_does_100 rfl (lv_at hl 1 rfl) ?_
          refine q_callV (rest := []) (k_X5_prepares l D cA A hS hB (M 20 l0) (55 + l0) (M 22 l0) (by omega) (by omega) (by omega)) hC hG cF5 hS.1 3 gX5_does_X5_prepares rfl (by decide +kernel) ⟨by decide, by decide⟩ rfl hl.1 rfl (by simp [Value.category]) dX5_does_101 ⟨Nat.le_of_ble_eq_true rfl, Nat.le_of_ble_eq_true rfl⟩ (fun v Y H locs hq hG => ?_)
          obtain ⟨rfl, rfl⟩ := hq
          have hB := bM_pre (n := n) (i := M 20 l0) (g := 55 + l0) (v := M 22 l0) hB (by omega) (by omega) (by omega)
          have q101 := m_pre_le n M (M 20 l0) (55 + l0) (M 22 l0)
          exact q_zret (v := ((m_pre n M (M 20 l0) (55 + l0) (M 22 l0)).1)) hC hG hr hlk (by first | decide | omega) (⟨by simp only [m_does, m_does2, if_pos c27, if_neg c27n, if_pos c37, if_neg c37n, if_pos c47, if_neg c47n, if_pos c58x1, ↓reduceIte], by simp only [m_does, m_does2, if_pos c27, if_neg c27n, if_pos c37, if_neg c37n, if_pos c47, if_neg c47n, if_pos c58x1, ↓reduceIte]⟩) dX5_does_104
        by_cases c58x2 : M 21 l0 = 2
        · refine lv_tableIn (off := 47) (tgt := 105) hx hb dX5_does_58 (by rw [c58x2]; decide +kernel) (by rw [c58x2]; decide +kernel) (by rw [c58x2]; decide +kernel) (by decide) ?_
          refine lv_aload_n hx hb dX5_does_105 rfl (lv_at hl 3 rfl) ?_
          refine lv_iload_n hx hb dX5_does_106 rfl (lv_at hl 2 rfl) ?_
          refine lv_aload_n hx hb dX5_does_107 rfl (lv_at hl 3 rfl) ?_
          refine q_mg hC hG hS i5 19 rfl k56 dX5_does_108 ?_
          refine lv_iload_n hx hb dX5_does_111 rfl (lv_at hl 4 rfl) ?_
          refine q_ml (N := 240) (w := M 19 l0) hC hG hS 19 rfl rfl rfl (by omega) rfl dX5_does_112 ?_
          have b19 : M 19 l0 < 2147483648 := by have := hB.1 19 l0 rfl; first | exact this | (simp [up2, m_cp, m_cpk] at this; exact this) | omega
          refine lv_iload_n hx hb dX5_does_113 rfl (lv_at hl 1 rfl) ?_
          refine lv_aload_n hx hb dX5_does_114 rfl (lv_at hl 3 rfl) ?_
          refine q_mg hC hG hS i5 23 rfl k68 dX5_does_115 ?_
          refine lv_iload_n hx hb dX5_does_118 rfl (lv_at hl 4 rfl) ?_
          refine q_ml (N := 240) (w := M 23 l0) hC hG hS 23 rfl rfl rfl (by omega) rfl dX5_does_119 ?_
          have b20 : M 23 l0 < 2147483648 := by have := hB.1 23 l0 rfl; first | exact this | (simp [up2, m_cp, m_cpk] at this; exact this) | omega
          refine q_callV (rest := []) (k_X5_hears l D cA A hS hB (M 20 l0) (M 19 l0) (M 22 l0) (M 23 l0) (by omega) (by omega) (by omega) (by omega)) hC hG cF5 hS.1 4 gX5_does_X5_hears rfl (by decide +kernel) ⟨by decide, by decide⟩ rfl hl.1 rfl (by simp [Value.category]) dX5_does_120 ⟨Nat.le_of_ble_eq_true rfl, Nat.le_of_ble_eq_true rfl⟩ (fun v Y H locs hq hG => ?_)
          obtain ⟨rfl, rfl⟩ := hq
          have hB := bM_hea (n := n) (f := f) (i := M 20 l0) (s := M 19 l0) (v := M 22 l0) (c := M 23 l0) hB (by omega)
          have q120 := m_hea_le n f M (M 20 l0) (M 19 l0) (M 22 l0) (M 23 l0)
          exact q_zret (v := ((m_hea n f M (M 20 l0) (M 19 l0) (M 22 l0) (M 23 l0)).1)) hC hG hr hlk (by first | decide | omega) (⟨by simp only [m_does, m_does2, if_pos c27, if_neg c27n, if_pos c37, if_neg c37n, if_pos c47, if_neg c47n, if_neg c58x1, if_pos c58x2, ↓reduceIte], by simp only [m_does, m_does2, if_pos c27, if_neg c27n, if_pos c37, if_neg c37n, if_pos c47, if_neg c47n, if_neg c58x1, if_pos c58x2, ↓reduceIte]⟩) dX5_does_123
        by_cases c58x3 : M 21 l0 = 3
        · refine lv_tableIn (off := 66) (tgt := 124) hx hb dX5_does_58 (by rw [c58x3]; decide +kernel) (by rw [c58x3]; decide +kernel) (by rw [c58x3]; decide +kernel) (by decide) ?_
          refine lv_aload_n hx hb dX5_does_124 rfl (lv_at hl 3 rfl) ?_
          refine lv_iload_n hx hb dX5_does_125 rfl (lv_at hl 2 rfl) ?_
          refine lv_aload_n hx hb dX5_does_126 rfl (lv_at hl 3 rfl) ?_
          refine q_mg hC hG hS i5 19 rfl k56 dX5_does_127 ?_
          refine lv_iload_n hx hb dX5_does_130 rfl (lv_at hl 4 rfl) ?_
          refine q_ml (N := 240) (w := M 19 l0) hC hG hS 19 rfl rfl rfl (by omega) rfl dX5_does_131 ?_
          have b21 : M 19 l0 < 2147483648 := by have := hB.1 19 l0 rfl; first | exact this | (simp [up2, m_cp, m_cpk] at this; exact this) | omega
          refine lv_iload_n hx hb dX5_does_132 rfl (lv_at hl 1 rfl) ?_
          refine q_callV (rest := []) (k_X5_isAsked l D cA A hS hB (M 20 l0) (M 19 l0) (M 22 l0) (by omega) (by omega) (by omega)) hC hG cF5 hS.1 3 gX5_does_X5_isAsked rfl (by decide +kernel) ⟨by decide, by decide⟩ rfl hl.1 rfl (by simp [Value.category]) dX5_does_133 ⟨Nat.le_of_ble_eq_true rfl, Nat.le_of_ble_eq_true rfl⟩ (fun v Y H locs hq hG => ?_)
          obtain ⟨rfl, rfl⟩ := hq
          have hB := bM_ask (n := n) (f := f) (i := M 20 l0) (s := M 19 l0) (v := M 22 l0) hB (by omega) (by omega) (by omega)
          have q133 := m_ask_le n f M (M 20 l0) (M 19 l0) (M 22 l0)
          exact q_zret (v := ((m_ask n f M (M 20 l0) (M 19 l0) (M 22 l0)).1)) hC hG hr hlk (by first | decide | omega) (⟨by simp only [m_does, m_does2, if_pos c27, if_neg c27n, if_pos c37, if_neg c37n, if_pos c47, if_neg c47n, if_neg c58x1, if_neg c58x2, if_pos c58x3, ↓reduceIte], by simp only [m_does, m_does2, if_pos c27, if_neg c27n, if_pos c37, if_neg c37n, if_pos c47, if_neg c47n, if_neg c58x1, if_neg c58x2, if_pos c58x3, ↓reduceIte]⟩) dX5_does_136
        by_cases c58x4 : M 21 l0 = 4
        · refine lv_tableIn (off := 79) (tgt := 137) hx hb dX5_does_58 (by rw [c58x4]; decide +kernel) (by rw [c58x4]; decide +kernel) (by rw [c58x4]; decide +kernel) (by decide) ?_
          refine lv_aload_n hx hb dX5_does_137 rfl (lv_at hl 3 rfl) ?_
          refine lv_iload_n hx hb dX5_does_138 rfl (lv_at hl 2 rfl) ?_
          refine lv_aload_n hx hb dX5_does_139 rfl (lv_at hl 3 rfl) ?_
          refine q_mg hC hG hS i5 19 rfl k56 dX5_does_140 ?_
          refine lv_iload_n hx hb dX5_does_143 rfl (lv_at hl 4 rfl) ?_
          refine q_ml (N := 240) (w := M 19 l0) hC hG hS 19 rfl rfl rfl (by omega) rfl dX5_does_144 ?_
          have b22 : M 19 l0 < 2147483648 := by have := hB.1 19 l0 rfl; first | exact this | (simp [up2, m_cp, m_cpk] at this; exact this) | omega
          refine lv_iload hx hb dX5_does_145 (lv_at hl 0 rfl) ?_
          refine lv_iload_n hx hb dX5_does_147 rfl (lv_at hl 1 rfl) ?_
          refine lv_aload_n hx hb dX5_does_148 rfl (lv_at hl 3 rfl) ?_
          refine q_mg hC hG hS i5 23 rfl k68 dX5_does_149 ?_
          refine lv_iload_n hx hb dX5_does_152 rfl (lv_at hl 4 rfl) ?_
          refine q_ml (N := 240) (w := M 23 l0) hC hG hS 23 rfl rfl rfl (by omega) rfl dX5_does_153 ?_
          have b23 : M 23 l0 < 2147483648 := by have := hB.1 23 l0 rfl; first | exact this | (simp [up2, m_cp, m_cpk] at this; exact this) | omega
          refine q_callV (rest := []) (k_X5_isVoted l D cA A hS hB (M 20 l0) (M 19 l0) (55 + l0) (M 22 l0) (M 23 l0) (by omega) (by omega) (by omega) (by omega) (by omega)) hC hG cF5 hS.1 5 gX5_does_X5_isVoted rfl (by decide +kernel) ⟨by decide, by decide⟩ rfl hl.1 rfl (by simp [Value.category]) dX5_does_154 ⟨Nat.le_of_ble_eq_true rfl, Nat.le_of_ble_eq_true rfl⟩ (fun v Y H locs hq hG => ?_)
          obtain ⟨rfl, rfl⟩ := hq
          have hB := bM_vot (n := n) (f := f) (i := M 20 l0) (s := M 19 l0) (g := 55 + l0) (v := M 22 l0) (c := M 23 l0) hB (by omega) (by omega) (by omega) (by omega)
          have q154 := m_vot_le n f M (M 20 l0) (M 19 l0) (55 + l0) (M 22 l0) (M 23 l0)
          exact q_zret (v := ((m_vot n f M (M 20 l0) (M 19 l0) (55 + l0) (M 22 l0) (M 23 l0)).1)) hC hG hr hlk (by first | decide | omega) (⟨by simp only [m_does, m_does2, if_pos c27, if_neg c27n, if_pos c37, if_neg c37n, if_pos c47, if_neg c47n, if_neg c58x1, if_neg c58x2, if_neg c58x3, if_pos c58x4, ↓reduceIte], by simp only [m_does, m_does2, if_pos c27, if_neg c27n, if_pos c37, if_neg c37n, if_pos c47, if_neg c47n, if_neg c58x1, if_neg c58x2, if_neg c58x3, if_pos c58x4, ↓reduceIte]⟩) dX5_does_157
        by_cases c58x5 : M 21 l0 = 5
        · refine lv_tableIn (off := 38) (tgt := 96) hx hb dX5_does_58 (by rw [c58x5]; decide +kernel) (by rw [c58x5]; decide +kernel) (by rw [c58x5]; decide +kernel) (by decide) ?_
          refine lv_aload_n hx hb dX5_does_96 rfl (lv_at hl 3 rfl) ?_
          refine lv_iload_n hx hb dX5_does_97 rfl (lv_at hl 2 rfl) ?_
          refine lv_iload hx hb dX5_does_98 (lv_at hl 0 rfl) ?_
          refine lv_iload_n hx hb dX5_does_100 rfl (lv_at hl 1 rfl) ?_
          refine q_callV (rest := []) (k_X5_prepares l D cA A hS hB (M 20 l0) (55 + l0) (M 22 l0) (by omega) (by omega) (by omega)) hC hG cF5 hS.1 3 gX5_does_X5_prepares rfl (by decide +kernel) ⟨by decide, by decide⟩ rfl hl.1 rfl (by simp [Value.category]) dX5_does_101 ⟨Nat.le_of_ble_eq_true rfl, Nat.le_of_ble_eq_true rfl⟩ (fun v Y H locs hq hG => ?_)
          obtain ⟨rfl, rfl⟩ := hq
          have hB := bM_pre (n := n) (i := M 20 l0) (g := 55 + l0) (v := M 22 l0) hB (by omega) (by omega) (by omega)
          have q101 := m_pre_le n M (M 20 l0) (55 + l0) (M 22 l0)
          exact q_zret (v := ((m_pre n M (M 20 l0) (55 + l0) (M 22 l0)).1)) hC hG hr hlk (by first | decide | omega) (⟨by simp only [m_does, m_does2, if_pos c27, if_neg c27n, if_pos c37, if_neg c37n, if_pos c47, if_neg c47n, if_neg c58x1, if_neg c58x2, if_neg c58x3, if_neg c58x4, if_pos c58x5, ↓reduceIte], by simp only [m_does, m_does2, if_pos c27, if_neg c27n, if_pos c37, if_neg c37n, if_pos c47, if_neg c47n, if_neg c58x1, if_neg c58x2, if_neg c58x3, if_neg c58x4, if_pos c58x5, ↓reduceIte]⟩) dX5_does_104
        by_cases c58x6 : M 21 l0 = 6
        · refine lv_tableIn (off := 100) (tgt := 158) hx hb dX5_does_58 (by rw [c58x6]; decide +kernel) (by rw [c58x6]; decide +kernel) (by rw [c58x6]; decide +kernel) (by decide) ?_
          refine lv_aload_n hx hb dX5_does_158 rfl (lv_at hl 3 rfl) ?_
          refine q_mg hC hG hS i5 5 rfl k19 dX5_does_159 ?_
          refine lv_iload_n hx hb dX5_does_162 rfl (lv_at hl 2 rfl) ?_
          refine q_ml (N := 5) (w := M 5 (M 20 l0)) hC hG hS 5 rfl rfl rfl (by omega) rfl dX5_does_163 ?_
          have b24 : M 5 (M 20 l0) < 2147483648 := by have := hB.1 5 (M 20 l0) rfl; first | exact this | (simp [up2, m_cp, m_cpk] at this; exact this) | omega
          refine n_ifeq (tgt := 169) hC dX5_does_164 (by decide) (by omega) (fun c164 => ?_) (fun c164 => ?_)
          · refine lv_aload_n hx hb dX5_does_169 rfl (lv_at hl 3 rfl) ?_
            refine lv_iload_n hx hb dX5_does_170 rfl (lv_at hl 2 rfl) ?_
            refine lv_aload_n hx hb dX5_does_171 rfl (lv_at hl 3 rfl) ?_
            refine q_mg hC hG hS i5 19 rfl k56 dX5_does_172 ?_
            refine lv_iload_n hx hb dX5_does_175 rfl (lv_at hl 4 rfl) ?_
            refine q_ml (N := 240) (w := M 19 l0) hC hG hS 19 rfl rfl rfl (by omega) rfl dX5_does_176 ?_
            have b25 : M 19 l0 < 2147483648 := by have := hB.1 19 l0 rfl; first | exact this | (simp [up2, m_cp, m_cpk] at this; exact this) | omega
            refine n_bipush hC 7 (by decide) dX5_does_177 ?_
            refine lv_aload_n hx hb dX5_does_179 rfl (lv_at hl 3 rfl) ?_
            refine q_mg hC hG hS i5 6 rfl k22 dX5_does_180 ?_
            refine lv_iload_n hx hb dX5_does_183 rfl (lv_at hl 2 rfl) ?_
            refine q_ml (N := 5) (w := M 6 (M 20 l0)) hC hG hS 6 rfl rfl rfl (by omega) rfl dX5_does_184 ?_
            have b26 : M 6 (M 20 l0) < 2147483648 := by have := hB.1 6 (M 20 l0) rfl; first | exact this | (simp [up2, m_cp, m_cpk] at this; exact this) | omega
            refine lv_aload_n hx hb dX5_does_185 rfl (lv_at hl 3 rfl) ?_
            refine q_mg hC hG hS i5 23 rfl k68 dX5_does_186 ?_
            refine lv_iload_n hx hb dX5_does_189 rfl (lv_at hl 4 rfl) ?_
            refine q_ml (N := 240) (w := M 23 l0) hC hG hS 23 rfl rfl rfl (by omega) rfl dX5_does_190 ?_
            have b27 : M 23 l0 < 2147483648 := by have := hB.1 23 l0 rfl; first | exact this | (simp [up2, m_cp, m_cpk] at this; exact this) | omega
            refine q_callV (rest := []) (k_X5_post l D cA A hS hB (M 20 l0) (M 19 l0) 7 (M 6 (M 20 l0)) (M 23 l0) (by omega) (by omega) (by omega) (by omega) (by omega)) hC hG cF5 hS.1 5 gX5_does_X5_post rfl (by decide +kernel) ⟨by decide, by decide⟩ rfl hl.1 rfl (by simp [Value.category]) dX5_does_191 ⟨Nat.le_of_ble_eq_true rfl, Nat.le_of_ble_eq_true rfl⟩ (fun v Y H locs hq hG => ?_)
            obtain ⟨rfl, rfl⟩ := hq
            have hB := bM_post (i := M 20 l0) (j := M 19 l0) (k := 7) (v := M 6 (M 20 l0)) (c := M 23 l0) hB (by omega) (by omega) (by omega) (by omega) (by omega)
            refine n_iconst hC 1 dX5_does_194 ?_
            exact q_zret (v := 1) hC hG hr hlk (by first | decide | omega) (⟨by simp only [m_does, m_does2, if_pos c27, if_neg c27n, if_pos c37, if_neg c37n, if_pos c47, if_neg c47n, if_neg c58x1, if_neg c58x2, if_neg c58x3, if_neg c58x4, if_neg c58x5, if_pos c58x6, if_pos c164, ↓reduceIte], by simp only [m_does, m_does2, if_pos c27, if_neg c27n, if_pos c37, if_neg c37n, if_pos c47, if_neg c47n, if_neg c58x1, if_neg c58x2, if_neg c58x3, if_neg c58x4, if_neg c58x5, if_pos c58x6, if_pos c164, ↓reduceIte]⟩) dX5_does_195
          · refine n_iconst hC 0 dX5_does_167 ?_
            exact q_zret (v := 0) hC hG hr hlk (by first | decide | omega) (⟨by simp only [m_does, m_does2, if_pos c27, if_neg c27n, if_pos c37, if_neg c37n, if_pos c47, if_neg c47n, if_neg c58x1, if_neg c58x2, if_neg c58x3, if_neg c58x4, if_neg c58x5, if_pos c58x6, if_neg c164, ↓reduceIte], by simp only [m_does, m_does2, if_pos c27, if_neg c27n, if_pos c37, if_neg c37n, if_pos c47, if_neg c47n, if_neg c58x1, if_neg c58x2, if_neg c58x3, if_neg c58x4, if_neg c58x5, if_pos c58x6, if_neg c164, ↓reduceIte]⟩) dX5_does_168
        refine lv_tableOut (tgt := 196) hx hb dX5_does_58 (by rw [nI_toInt (by omega)]; omega) (by decide) ?_
        refine lv_aload_n hx hb dX5_does_196 rfl (lv_at hl 3 rfl) ?_
        refine lv_iload_n hx hb dX5_does_197 rfl (lv_at hl 2 rfl) ?_
        refine lv_aload_n hx hb dX5_does_198 rfl (lv_at hl 3 rfl) ?_
        refine q_mg hC hG hS i5 19 rfl k56 dX5_does_199 ?_
        refine lv_iload_n hx hb dX5_does_202 rfl (lv_at hl 4 rfl) ?_
        refine q_ml (N := 240) (w := M 19 l0) hC hG hS 19 rfl rfl rfl (by omega) rfl dX5_does_203 ?_
        have b28 : M 19 l0 < 2147483648 := by have := hB.1 19 l0 rfl; first | exact this | (simp [up2, m_cp, m_cpk] at this; exact this) | omega
        refine lv_iload hx hb dX5_does_204 (lv_at hl 0 rfl) ?_
        refine lv_iload_n hx hb dX5_does_206 rfl (lv_at hl 1 rfl) ?_
        refine lv_aload_n hx hb dX5_does_207 rfl (lv_at hl 3 rfl) ?_
        refine q_mg hC hG hS i5 23 rfl k68 dX5_does_208 ?_
        refine lv_iload_n hx hb dX5_does_211 rfl (lv_at hl 4 rfl) ?_
        refine q_ml (N := 240) (w := M 23 l0) hC hG hS 23 rfl rfl rfl (by omega) rfl dX5_does_212 ?_
        have b29 : M 23 l0 < 2147483648 := by have := hB.1 23 l0 rfl; first | exact this | (simp [up2, m_cp, m_cpk] at this; exact this) | omega
        refine q_callV (rest := []) (k_X5_hearsTale l D cA A hS hB (M 20 l0) (M 19 l0) (55 + l0) (M 22 l0) (M 23 l0) (by omega) (by omega) (by omega) (by omega) (by omega)) hC hG cF5 hS.1 5 gX5_does_X5_hearsTale rfl (by decide +kernel) ⟨by decide, by decide⟩ rfl hl.1 rfl (by simp [Value.category]) dX5_does_213 ⟨Nat.le_of_ble_eq_true rfl, Nat.le_of_ble_eq_true rfl⟩ (fun v Y H locs hq hG => ?_)
        obtain ⟨rfl, rfl⟩ := hq
        have hB := bM_tal (n := n) (f := f) (i := M 20 l0) (s := M 19 l0) (g := 55 + l0) (v := M 22 l0) (c := M 23 l0) hB (by omega)
        have q213 := m_tal_le n f M (M 20 l0) (M 19 l0) (55 + l0) (M 22 l0) (M 23 l0)
        exact q_zret (v := ((m_tal n f M (M 20 l0) (M 19 l0) (55 + l0) (M 22 l0) (M 23 l0)).1)) hC hG hr hlk (by first | decide | omega) (⟨by simp only [m_does, m_does2, if_pos c27, if_neg c27n, if_pos c37, if_neg c37n, if_pos c47, if_neg c47n, if_neg c58x1, if_neg c58x2, if_neg c58x3, if_neg c58x4, if_neg c58x5, if_neg c58x6, ↓reduceIte], by simp only [m_does, m_does2, if_pos c27, if_neg c27n, if_pos c37, if_neg c37n, if_pos c47, if_neg c47n, if_neg c58x1, if_neg c58x2, if_neg c58x3, if_neg c58x4, if_neg c58x5, if_neg c58x6, ↓reduceIte]⟩) dX5_does_216
      · have c47n := Nat.not_le.mpr c47
        refine n_iconst hC 0 dX5_does_50 ?_
        exact q_zret (v := 0) hC hG hr hlk (by first | decide | omega) (⟨by simp only [m_does, m_does2, if_pos c27, if_neg c27n, if_pos c37, if_neg c37n, if_pos c47, if_neg c47n, ↓reduceIte], by simp only [m_does, m_does2, if_pos c27, if_neg c27n, if_pos c37, if_neg c37n, if_pos c47, if_neg c47n, ↓reduceIte]⟩) dX5_does_51

def m_deliver (n f : Nat) (M : MM) (letter : Int32) : Int32 × MM :=
  if m_there M letter = 0 then (-2, M) else if M 16 (5 * M 19 (tN letter) + M 20 (tN letter)) = 0 then (if (m_does n f M (tN letter)).1 = 0 then nI 0 else nI 1, (m_does n f M (tN letter)).2) else (-3, M)
def m_drop (M : MM) (letter : Int32) : Int32 × MM := if m_there M letter = 0 then (-2, M) else (nI 1, up2 M 24 (tN letter) 1)

abbrev rmX5_deliver : Room := { frames := 6, cells := 0, slots := 0, locals := 152 }
set_option maxHeartbeats 4000000 in
set_option maxRecDepth 100000 in
theorem k_X5_deliver (l : Launch) (D : va_G) (cA : Nat → ClassId) (A : Nat → Prop) {mb n f : Nat} {X : Mem} {M : MM} (hS : mS mb n f X) (hB : bM M) (hP : mP n M) (letter : Int32) : mt l D cA A yX5_deliver wsX5_deliver rmX5_deliver [.ref mb, .int letter] (sM mb X M) (fun w Y => w = some (.int (m_deliver n f M letter).1) ∧ Y = sM mb X (m_deliver n f M letter).2) := by
  refine q_start (by decide) rfl (Nat.le_of_ble_eq_true rfl) (fun p e s m args below meth c H locs hC hr hlk hnm hG ls hl => ?_)
  have hl : lv_has ls 2 [(0, .ref mb), (1, .int letter)] := hl
  have hx := hC.1.1
  have hb := hC.1.2.1
  have hts := hC.1.2.2.2.2
  have i5 : ∀ w ∈ wsX50, w ∈ wsX5_deliver := by decide +kernel
  have hnf := hS.2.2.2.2
  have h17 := hB.2
  have k53 := hts (.fieldLink RX5 53 "ViewStampsModel" "isCut" "[Z") (by decide +kernel)
  have k56 := hts (.fieldLink RX5 56 "ViewStampsModel" "from" "[I") (by decide +kernel)
  have k59 := hts (.fieldLink RX5 59 "ViewStampsModel" "to" "[I") (by decide +kernel)
  refine lv_aload_n hx hb dX5_deliver_0 rfl (lv_at hl 0 rfl) ?_
  refine lv_iload_n hx hb dX5_deliver_1 rfl (lv_at hl 1 rfl) ?_
  refine q_callV (rest := []) (k_X5_isThere l D cA A hS hB letter) hC hG cF5 hS.1 1 gX5_deliver_X5_isThere rfl (by decide +kernel) ⟨by decide, by decide⟩ rfl hl.1 rfl (by simp [Value.category]) dX5_deliver_2 ⟨Nat.le_of_ble_eq_true rfl, Nat.le_of_ble_eq_true rfl⟩ (fun v Y H locs hq hG => ?_)
  obtain ⟨rfl, rfl⟩ := hq
  have q2 := m_there_le M letter
  refine n_ifne (tgt := 11) hC dX5_deliver_5 (by decide) (by omega) (fun c5 => ?_) (fun c5 => ?_)
  · obtain ⟨j, hj, rfl, hj2⟩ := m_there_of hB.2 c5
    have t_j : tN (nI j) = j := tN_nI (by omega)
    have hP0 := hP j hj
    refine lv_aload_n hx hb dX5_deliver_11 rfl (lv_at hl 0 rfl) ?_
    refine q_mg hC hG hS i5 16 rfl k53 dX5_deliver_12 ?_
    refine n_iconst hC 5 dX5_deliver_15 ?_
    refine lv_aload_n hx hb dX5_deliver_16 rfl (lv_at hl 0 rfl) ?_
    refine q_mg hC hG hS i5 19 rfl k56 dX5_deliver_17 ?_
    refine lv_iload_n hx hb dX5_deliver_20 rfl (lv_at hl 1 rfl) ?_
    refine q_ml (N := 240) (w := M 19 j) hC hG hS 19 rfl rfl rfl (by omega) rfl dX5_deliver_21 ?_
    have b1 : M 19 j < 2147483648 := by have := hB.1 19 j rfl; first | exact this | (simp [up2, m_cp, m_cpk] at this; exact this) | omega
    refine n_imul hC dX5_deliver_22 ?_
    refine lv_aload_n hx hb dX5_deliver_23 rfl (lv_at hl 0 rfl) ?_
    refine q_mg hC hG hS i5 20 rfl k59 dX5_deliver_24 ?_
    refine lv_iload_n hx hb dX5_deliver_27 rfl (lv_at hl 1 rfl) ?_
    refine q_ml (N := 240) (w := M 20 j) hC hG hS 20 rfl rfl rfl (by omega) rfl dX5_deliver_28 ?_
    have b2 : M 20 j < 2147483648 := by have := hB.1 20 j rfl; first | exact this | (simp [up2, m_cp, m_cpk] at this; exact this) | omega
    refine n_iadd hC dX5_deliver_29 ?_
    refine q_mlz (N := 25) (w := M 16 ((5 * (M 19 j)) + (M 20 j))) hC hG hS 16 rfl rfl rfl (by omega) rfl dX5_deliver_30 ?_
    have b3 : M 16 ((5 * (M 19 j)) + (M 20 j)) < 2147483648 := by have := hB.1 16 ((5 * (M 19 j)) + (M 20 j)) rfl; first | exact this | (simp [up2, m_cp, m_cpk] at this; exact this) | omega
    refine n_ifeq (tgt := 37) hC dX5_deliver_31 (by decide) (by omega) (fun c31 => ?_) (fun c31 => ?_)
    · refine lv_aload_n hx hb dX5_deliver_37 rfl (lv_at hl 0 rfl) ?_
      refine lv_iload_n hx hb dX5_deliver_38 rfl (lv_at hl 1 rfl) ?_
      refine q_callV (rest := []) (k_X5_does l D cA A hS hB hP j (by omega)) hC hG cF5 hS.1 1 gX5_deliver_X5_does rfl (by decide +kernel) ⟨by decide, by decide⟩ rfl hl.1 rfl (by simp [Value.category]) dX5_deliver_39 ⟨Nat.le_of_ble_eq_true rfl, Nat.le_of_ble_eq_true rfl⟩ (fun v Y H locs hq hG => ?_)
      obtain ⟨rfl, rfl⟩ := hq
      have q39 := m_does_le n f M j
      refine n_ifeq (tgt := 49) hC dX5_deliver_42 (by decide) (by omega) (fun c42 => ?_) (fun c42 => ?_)
      · refine n_iconst hC 0 dX5_deliver_49 ?_
        exact q_iret (v := (nI 0)) hC hG hr hlk (⟨by simp only [m_deliver, if_neg c5, if_pos c31, if_pos c42, t_j, ↓reduceIte], by simp only [m_deliver, if_neg c5, if_pos c31, if_pos c42, t_j, ↓reduceIte]⟩) dX5_deliver_50
      · refine n_iconst hC 1 dX5_deliver_45 ?_
        refine lv_goto (tgt := 50) hx hb dX5_deliver_46 (by decide) ?_
        exact q_iret (v := (nI 1)) hC hG hr hlk (⟨by simp only [m_deliver, if_neg c5, if_pos c31, if_neg c42, t_j, ↓reduceIte], by simp only [m_deliver, if_neg c5, if_pos c31, if_neg c42, t_j, ↓reduceIte]⟩) dX5_deliver_50
    · refine lv_bipush (v := -3) hx hb dX5_deliver_34 (by decide) ?_
      exact q_iret (v := (-3)) hC hG hr hlk (⟨by simp only [m_deliver, if_neg c5, if_neg c31, t_j, ↓reduceIte], by simp only [m_deliver, if_neg c5, if_neg c31, t_j, ↓reduceIte]⟩) dX5_deliver_36
  · refine lv_bipush (v := -2) hx hb dX5_deliver_8 (by decide) ?_
    exact q_iret (v := (-2)) hC hG hr hlk (⟨by simp only [m_deliver, if_pos c5, ↓reduceIte], by simp only [m_deliver, if_pos c5, ↓reduceIte]⟩) dX5_deliver_10

abbrev rmX5_drop : Room := { frames := 2, cells := 0, slots := 0, locals := 43 }
set_option maxHeartbeats 4000000 in
set_option maxRecDepth 100000 in
theorem k_X5_drop (l : Launch) (D : va_G) (cA : Nat → ClassId) (A : Nat → Prop) {mb n f : Nat} {X : Mem} {M : MM} (hS : mS mb n f X) (hB : bM M) (letter : Int32) : mt l D cA A yX5_drop wsX5_drop rmX5_drop [.ref mb, .int letter] (sM mb X M) (fun w Y => w = some (.int (m_drop M letter).1) ∧ Y = sM mb X (m_drop M letter).2) := by
  refine q_start (by decide) rfl (Nat.le_of_ble_eq_true rfl) (fun p e s m args below meth c H locs hC hr hlk hnm hG ls hl => ?_)
  have hl : lv_has ls 2 [(0, .ref mb), (1, .int letter)] := hl
  have hx := hC.1.1
  have hb := hC.1.2.1
  have hts := hC.1.2.2.2.2
  have i5 : ∀ w ∈ wsX50, w ∈ wsX5_drop := by decide +kernel
  have hnf := hS.2.2.2.2
  have h17 := hB.2
  have k71 := hts (.fieldLink RX5 71 "ViewStampsModel" "dropped" "[Z") (by decide +kernel)
  refine lv_aload_n hx hb dX5_drop_0 rfl (lv_at hl 0 rfl) ?_
  refine lv_iload_n hx hb dX5_drop_1 rfl (lv_at hl 1 rfl) ?_
  refine q_callV (rest := []) (k_X5_isThere l D cA A hS hB letter) hC hG cF5 hS.1 1 gX5_drop_X5_isThere rfl (by decide +kernel) ⟨by decide, by decide⟩ rfl hl.1 rfl (by simp [Value.category]) dX5_drop_2 ⟨Nat.le_of_ble_eq_true rfl, Nat.le_of_ble_eq_true rfl⟩ (fun v Y H locs hq hG => ?_)
  obtain ⟨rfl, rfl⟩ := hq
  have q2 := m_there_le M letter
  refine n_ifne (tgt := 11) hC dX5_drop_5 (by decide) (by omega) (fun c5 => ?_) (fun c5 => ?_)
  · obtain ⟨j, hj, rfl, hj2⟩ := m_there_of hB.2 c5
    have t_j : tN (nI j) = j := tN_nI (by omega)
    refine lv_aload_n hx hb dX5_drop_11 rfl (lv_at hl 0 rfl) ?_
    refine q_mg hC hG hS i5 24 rfl k71 dX5_drop_12 ?_
    refine lv_iload_n hx hb dX5_drop_15 rfl (lv_at hl 1 rfl) ?_
    refine n_iconst hC 1 dX5_drop_16 ?_
    refine q_msz (N := 240) hC hG hS 24 rfl rfl rfl (by omega) (by omega) dX5_drop_17 (fun H locs hG => ?_)
    have hB := bM_up hB 24 j (v := 1) (by omega)
    refine n_iconst hC 1 dX5_drop_18 ?_
    exact q_iret (v := (nI 1)) hC hG hr hlk (⟨by simp only [m_drop, if_neg c5, t_j, ↓reduceIte], by simp only [m_drop, if_neg c5, t_j, ↓reduceIte]⟩) dX5_drop_19
  · refine lv_bipush (v := -2) hx hb dX5_drop_8 (by decide) ?_
    exact q_iret (v := (-2)) hC hG hr hlk (⟨by simp only [m_drop, if_pos c5, ↓reduceIte], by simp only [m_drop, if_pos c5, ↓reduceIte]⟩) dX5_drop_10

def m_cut (n : Nat) (M : MM) (i j : Int32) (on : Nat) : Int32 × MM :=
  if m_isNode n i = 0 then (-2, M) else if m_isNode n j = 0 then (-2, M) else if i = j then (-2, M) else
    (if M 16 (5 * tN i + tN j) = 0 then nI 0 else nI 1, up2 (up2 M 16 (5 * tN i + tN j) on) 16 (5 * tN j + tN i) on)

abbrev rmX5_cut : Room := { frames := 2, cells := 0, slots := 0, locals := 43 }
set_option maxHeartbeats 4000000 in
set_option maxRecDepth 100000 in
theorem k_X5_cut (l : Launch) (D : va_G) (cA : Nat → ClassId) (A : Nat → Prop) {mb n f : Nat} {X : Mem} {M : MM} (hS : mS mb n f X) (hB : bM M) (i j : Int32) (on : Nat) (hon : on ≤ 1) : mt l D cA A yX5_cut wsX5_cut rmX5_cut [.ref mb, .int i, .int j, .int (nI on)] (sM mb X M) (fun w Y => w = some (.int (m_cut n M i j on).1) ∧ Y = sM mb X (m_cut n M i j on).2) := by
  refine q_start (by decide) rfl (Nat.le_of_ble_eq_true rfl) (fun p e s m args below meth c H locs hC hr hlk hnm hG ls hl => ?_)
  have hl : lv_has ls 5 [(0, .ref mb), (1, .int i), (2, .int j), (3, .int (nI on))] := hl
  have hx := hC.1.1
  have hb := hC.1.2.1
  have hts := hC.1.2.2.2.2
  have i5 : ∀ w ∈ wsX50, w ∈ wsX5_cut := by decide +kernel
  have hnf := hS.2.2.2.2
  have k53 := hts (.fieldLink RX5 53 "ViewStampsModel" "isCut" "[Z") (by decide +kernel)
  refine lv_aload_n hx hb dX5_cut_0 rfl (lv_at hl 0 rfl) ?_
  refine lv_iload_n hx hb dX5_cut_1 rfl (lv_at hl 1 rfl) ?_
  refine q_callV (rest := []) (k_X5_isNode l D cA A hS hB i) hC hG cF5 hS.1 1 gX5_cut_X5_isNode rfl (by decide +kernel) ⟨by decide, by decide⟩ rfl hl.1 rfl (by simp [Value.category]) dX5_cut_2 ⟨Nat.le_of_ble_eq_true rfl, Nat.le_of_ble_eq_true rfl⟩ (fun v Y H locs hq hG => ?_)
  obtain ⟨rfl, rfl⟩ := hq
  have q2 : m_isNode n i ≤ 1 := m_in_le _ _ _
  refine n_ifeq (tgt := 21) hC dX5_cut_5 (by decide) (by omega) (fun c5 => ?_) (fun c5 => ?_)
  · refine lv_bipush (v := -2) hx hb dX5_cut_21 (by decide) ?_
    exact q_iret (v := (-2)) hC hG hr hlk (⟨by simp only [m_cut, if_pos c5, ↓reduceIte], by simp only [m_cut, if_pos c5, ↓reduceIte]⟩) dX5_cut_23
  · refine lv_aload_n hx hb dX5_cut_8 rfl (lv_at hl 0 rfl) ?_
    refine lv_iload_n hx hb dX5_cut_9 rfl (lv_at hl 2 rfl) ?_
    refine q_callV (rest := []) (k_X5_isNode l D cA A hS hB j) hC hG cF5 hS.1 1 gX5_cut_X5_isNode rfl (by decide +kernel) ⟨by decide, by decide⟩ rfl hl.1 rfl (by simp [Value.category]) dX5_cut_10 ⟨Nat.le_of_ble_eq_true rfl, Nat.le_of_ble_eq_true rfl⟩ (fun v Y H locs hq hG => ?_)
    obtain ⟨rfl, rfl⟩ := hq
    have q10 : m_isNode n j ≤ 1 := m_in_le _ _ _
    refine n_ifeq (tgt := 21) hC dX5_cut_13 (by decide) (by omega) (fun c13 => ?_) (fun c13 => ?_)
    · refine lv_bipush (v := -2) hx hb dX5_cut_21 (by decide) ?_
      exact q_iret (v := (-2)) hC hG hr hlk (⟨by simp only [m_cut, if_neg c5, if_pos c13, ↓reduceIte], by simp only [m_cut, if_neg c5, if_pos c13, ↓reduceIte]⟩) dX5_cut_23
    · refine lv_iload_n hx hb dX5_cut_16 rfl (lv_at hl 1 rfl) ?_
      refine lv_iload_n hx hb dX5_cut_17 rfl (lv_at hl 2 rfl) ?_
      refine lv_icmp_ne (tgt := 24) hx hb dX5_cut_18 (by decide) (fun c18 => ?_) (fun c18 => ?_)
      · obtain ⟨i0, hi0, rfl⟩ := m_isNode_of (n := n) (by omega) (by omega) c5
        obtain ⟨j0, hj0, rfl⟩ := m_isNode_of (n := n) (by omega) (by omega) c13
        have t_i : tN (nI i0) = i0 := tN_nI (by omega)
        have t_j : tN (nI j0) = j0 := tN_nI (by omega)
        refine lv_aload_n hx hb dX5_cut_24 rfl (lv_at hl 0 rfl) ?_
        refine q_mg hC hG hS i5 16 rfl k53 dX5_cut_25 ?_
        refine n_iconst hC 5 dX5_cut_28 ?_
        refine lv_iload_n hx hb dX5_cut_29 rfl (lv_at hl 1 rfl) ?_
        refine n_imul hC dX5_cut_30 ?_
        refine lv_iload_n hx hb dX5_cut_31 rfl (lv_at hl 2 rfl) ?_
        refine n_iadd hC dX5_cut_32 ?_
        refine q_mlz (N := 25) (w := M 16 ((5 * i0) + j0)) hC hG hS 16 rfl rfl rfl (by omega) rfl dX5_cut_33 ?_
        have b1 : M 16 ((5 * i0) + j0) < 2147483648 := by have := hB.1 16 ((5 * i0) + j0) rfl; first | exact this | (simp [up2, m_cp, m_cpk] at this; exact this) | omega
        refine n_ifeq (tgt := 41) hC dX5_cut_34 (by decide) (by omega) (fun c34 => ?_) (fun c34 => ?_)
        · refine n_iconst hC 0 dX5_cut_41 ?_
          refine lv_istore (lv' := [(4, .int (nI 0)), (0, .ref mb), (1, .int (nI i0)), (2, .int (nI j0)), (3, .int (nI on))]) hx hb dX5_cut_42 hl (by decide) rfl (fun ls hl => ?_)
          refine lv_aload_n hx hb dX5_cut_44 rfl (lv_at hl 1 rfl) ?_
          refine q_mg hC hG hS i5 16 rfl k53 dX5_cut_45 ?_
          refine n_iconst hC 5 dX5_cut_48 ?_
          refine lv_iload_n hx hb dX5_cut_49 rfl (lv_at hl 2 rfl) ?_
          refine n_imul hC dX5_cut_50 ?_
          refine lv_iload_n hx hb dX5_cut_51 rfl (lv_at hl 3 rfl) ?_
          refine n_iadd hC dX5_cut_52 ?_
          refine lv_iload_n hx hb dX5_cut_53 rfl (lv_at hl 4 rfl) ?_
          refine q_msz (N := 25) hC hG hS 16 rfl rfl rfl (by omega) (by omega) dX5_cut_54 (fun H locs hG => ?_)
          have hB := bM_up hB 16 ((5 * i0) + j0) (v := on) (by omega)
          refine lv_aload_n hx hb dX5_cut_55 rfl (lv_at hl 1 rfl) ?_
          refine q_mg hC hG hS i5 16 rfl k53 dX5_cut_56 ?_
          refine n_iconst hC 5 dX5_cut_59 ?_
          refine lv_iload_n hx hb dX5_cut_60 rfl (lv_at hl 3 rfl) ?_
          refine n_imul hC dX5_cut_61 ?_
          refine lv_iload_n hx hb dX5_cut_62 rfl (lv_at hl 2 rfl) ?_
          refine n_iadd hC dX5_cut_63 ?_
          refine lv_iload_n hx hb dX5_cut_64 rfl (lv_at hl 4 rfl) ?_
          refine q_msz (N := 25) hC hG hS 16 rfl rfl rfl (by omega) (by omega) dX5_cut_65 (fun H locs hG => ?_)
          have hB := bM_up hB 16 ((5 * j0) + i0) (v := on) (by omega)
          refine lv_iload hx hb dX5_cut_66 (lv_at hl 0 rfl) ?_
          exact q_iret (v := (nI 0)) hC hG hr hlk (⟨by simp only [m_cut, if_neg c5, if_neg c13, if_neg c18, if_pos c34, t_i, t_j, ↓reduceIte], by simp only [m_cut, if_neg c5, if_neg c13, if_neg c18, if_pos c34, t_i, t_j, ↓reduceIte]⟩) dX5_cut_68
        · refine n_iconst hC 1 dX5_cut_37 ?_
          refine lv_goto (tgt := 42) hx hb dX5_cut_38 (by decide) ?_
          refine lv_istore (lv' := [(4, .int (nI 1)), (0, .ref mb), (1, .int (nI i0)), (2, .int (nI j0)), (3, .int (nI on))]) hx hb dX5_cut_42 hl (by decide) rfl (fun ls hl => ?_)
          refine lv_aload_n hx hb dX5_cut_44 rfl (lv_at hl 1 rfl) ?_
          refine q_mg hC hG hS i5 16 rfl k53 dX5_cut_45 ?_
          refine n_iconst hC 5 dX5_cut_48 ?_
          refine lv_iload_n hx hb dX5_cut_49 rfl (lv_at hl 2 rfl) ?_
          refine n_imul hC dX5_cut_50 ?_
          refine lv_iload_n hx hb dX5_cut_51 rfl (lv_at hl 3 rfl) ?_
          refine n_iadd hC dX5_cut_52 ?_
          refine lv_iload_n hx hb dX5_cut_53 rfl (lv_at hl 4 rfl) ?_
          refine q_msz (N := 25) hC hG hS 16 rfl rfl rfl (by omega) (by omega) dX5_cut_54 (fun H locs hG => ?_)
          have hB := bM_up hB 16 ((5 * i0) + j0) (v := on) (by omega)
          refine lv_aload_n hx hb dX5_cut_55 rfl (lv_at hl 1 rfl) ?_
          refine q_mg hC hG hS i5 16 rfl k53 dX5_cut_56 ?_
          refine n_iconst hC 5 dX5_cut_59 ?_
          refine lv_iload_n hx hb dX5_cut_60 rfl (lv_at hl 3 rfl) ?_
          refine n_imul hC dX5_cut_61 ?_
          refine lv_iload_n hx hb dX5_cut_62 rfl (lv_at hl 2 rfl) ?_
          refine n_iadd hC dX5_cut_63 ?_
          refine lv_iload_n hx hb dX5_cut_64 rfl (lv_at hl 4 rfl) ?_
          refine q_msz (N := 25) hC hG hS 16 rfl rfl rfl (by omega) (by omega) dX5_cut_65 (fun H locs hG => ?_)
          have hB := bM_up hB 16 ((5 * j0) + i0) (v := on) (by omega)
          refine lv_iload hx hb dX5_cut_66 (lv_at hl 0 rfl) ?_
          exact q_iret (v := (nI 1)) hC hG hr hlk (⟨by simp only [m_cut, if_neg c5, if_neg c13, if_neg c18, if_neg c34, t_i, t_j, ↓reduceIte], by simp only [m_cut, if_neg c5, if_neg c13, if_neg c18, if_neg c34, t_i, t_j, ↓reduceIte]⟩) dX5_cut_68
      · refine lv_bipush (v := -2) hx hb dX5_cut_21 (by decide) ?_
        exact q_iret (v := (-2)) hC hG hr hlk (⟨by simp only [m_cut, if_neg c5, if_neg c13, if_pos c18, ↓reduceIte], by simp only [m_cut, if_neg c5, if_neg c13, if_pos c18, ↓reduceIte]⟩) dX5_cut_23

def m_timeout (n : Nat) (M : MM) (node : Int32) : Int32 × MM :=
  if m_isNode n node = 0 then (-2, M) else if M 5 (tN node) < 2 then (if M 6 (tN node) = 1000 then (-4, M) else (nI (m_chg n M (tN node) (M 6 (tN node) + 1) 6 (tN node)), m_chg n M (tN node) (M 6 (tN node) + 1))) else (-3, M)

abbrev rmX5_timeout : Room := { frames := 4, cells := 0, slots := 0, locals := 96 }
set_option maxHeartbeats 4000000 in
set_option maxRecDepth 100000 in
theorem k_X5_timeout (l : Launch) (D : va_G) (cA : Nat → ClassId) (A : Nat → Prop) {mb n f : Nat} {X : Mem} {M : MM} (hS : mS mb n f X) (hB : bM M) (hV : ∀ i, i < n → M 6 i ≤ 1000) (node : Int32) : mt l D cA A yX5_timeout wsX5_timeout rmX5_timeout [.ref mb, .int node] (sM mb X M) (fun w Y => w = some (.int (m_timeout n M node).1) ∧ Y = sM mb X (m_timeout n M node).2) := by
  refine q_start (by decide) rfl (Nat.le_of_ble_eq_true rfl) (fun p e s m args below meth c H locs hC hr hlk hnm hG ls hl => ?_)
  have hl : lv_has ls 2 [(0, .ref mb), (1, .int node)] := hl
  have hx := hC.1.1
  have hb := hC.1.2.1
  have hts := hC.1.2.2.2.2
  have i5 : ∀ w ∈ wsX50, w ∈ wsX5_timeout := by decide +kernel
  have hnf := hS.2.2.2.2
  have k19 := hts (.fieldLink RX5 19 "ViewStampsModel" "status" "[I") (by decide +kernel)
  have k22 := hts (.fieldLink RX5 22 "ViewStampsModel" "view" "[I") (by decide +kernel)
  refine lv_aload_n hx hb dX5_timeout_0 rfl (lv_at hl 0 rfl) ?_
  refine lv_iload_n hx hb dX5_timeout_1 rfl (lv_at hl 1 rfl) ?_
  refine q_callV (rest := []) (k_X5_isNode l D cA A hS hB node) hC hG cF5 hS.1 1 gX5_timeout_X5_isNode rfl (by decide +kernel) ⟨by decide, by decide⟩ rfl hl.1 rfl (by simp [Value.category]) dX5_timeout_2 ⟨Nat.le_of_ble_eq_true rfl, Nat.le_of_ble_eq_true rfl⟩ (fun v Y H locs hq hG => ?_)
  obtain ⟨rfl, rfl⟩ := hq
  have q2 : m_isNode n node ≤ 1 := m_in_le _ _ _
  refine n_ifne (tgt := 11) hC dX5_timeout_5 (by decide) (by omega) (fun c5 => ?_) (fun c5 => ?_)
  · obtain ⟨i, hi, rfl⟩ := m_isNode_of (n := n) (by omega) (by omega) c5
    have t_i : tN (nI i) = i := tN_nI (by omega)
    have hV0 := hV i hi
    refine lv_aload_n hx hb dX5_timeout_11 rfl (lv_at hl 0 rfl) ?_
    refine q_mg hC hG hS i5 5 rfl k19 dX5_timeout_12 ?_
    refine lv_iload_n hx hb dX5_timeout_15 rfl (lv_at hl 1 rfl) ?_
    refine q_ml (N := 5) (w := M 5 i) hC hG hS 5 rfl rfl rfl (by omega) rfl dX5_timeout_16 ?_
    have b1 : M 5 i < 2147483648 := by have := hB.1 5 i rfl; first | exact this | (simp [up2, m_cp, m_cpk] at this; exact this) | omega
    refine n_iconst hC 2 dX5_timeout_17 ?_
    refine n_lt (tgt := 24) hC dX5_timeout_18 (by decide) (by omega) (by omega) (fun c18 => ?_) (fun c18 => ?_)
    · have c18n := Nat.not_le.mpr c18
      refine lv_aload_n hx hb dX5_timeout_24 rfl (lv_at hl 0 rfl) ?_
      refine q_mg hC hG hS i5 6 rfl k22 dX5_timeout_25 ?_
      refine lv_iload_n hx hb dX5_timeout_28 rfl (lv_at hl 1 rfl) ?_
      refine q_ml (N := 5) (w := M 6 i) hC hG hS 6 rfl rfl rfl (by omega) rfl dX5_timeout_29 ?_
      have b2 : M 6 i < 2147483648 := by have := hB.1 6 i rfl; first | exact this | (simp [up2, m_cp, m_cpk] at this; exact this) | omega
      refine n_sipush hC 1000 (by decide +kernel) dX5_timeout_30 ?_
      refine n_ne (tgt := 39) hC dX5_timeout_33 (by decide) (by omega) (by omega) (fun c33 => ?_) (fun c33 => ?_)
      · refine lv_aload_n hx hb dX5_timeout_39 rfl (lv_at hl 0 rfl) ?_
        refine lv_iload_n hx hb dX5_timeout_40 rfl (lv_at hl 1 rfl) ?_
        refine lv_aload_n hx hb dX5_timeout_41 rfl (lv_at hl 0 rfl) ?_
        refine q_mg hC hG hS i5 6 rfl k22 dX5_timeout_42 ?_
        refine lv_iload_n hx hb dX5_timeout_45 rfl (lv_at hl 1 rfl) ?_
        refine q_ml (N := 5) (w := M 6 i) hC hG hS 6 rfl rfl rfl (by omega) rfl dX5_timeout_46 ?_
        have b3 : M 6 i < 2147483648 := by have := hB.1 6 i rfl; first | exact this | (simp [up2, m_cp, m_cpk] at this; exact this) | omega
        refine n_iconst hC 1 dX5_timeout_47 ?_
        refine n_iadd hC dX5_timeout_48 ?_
        refine q_callV (rest := []) (k_X5_changes l D cA A hS hB i ((M 6 i) + 1) (by omega) (by omega)) hC hG cF5 hS.1 2 gX5_timeout_X5_changes rfl (by decide +kernel) ⟨by decide, by decide⟩ rfl hl.1 rfl (by simp [Value.category]) dX5_timeout_49 ⟨Nat.le_of_ble_eq_true rfl, Nat.le_of_ble_eq_true rfl⟩ (fun v Y H locs hq hG => ?_)
        obtain ⟨rfl, rfl⟩ := hq
        have hB := bM_chg (n := n) (i := i) (v := (M 6 i) + 1) hB (by omega) (by omega) (by omega)
        refine lv_aload_n hx hb dX5_timeout_52 rfl (lv_at hl 0 rfl) ?_
        refine q_mg hC hG hS i5 6 rfl k22 dX5_timeout_53 ?_
        refine lv_iload_n hx hb dX5_timeout_56 rfl (lv_at hl 1 rfl) ?_
        refine q_ml (N := 5) (w := (m_chg n M i ((M 6 i) + 1)) 6 i) hC hG hS 6 rfl rfl rfl (by omega) rfl dX5_timeout_57 ?_
        have b4 : (m_chg n M i ((M 6 i) + 1)) 6 i < 2147483648 := by have := hB.1 6 i rfl; first | exact this | (simp [up2, m_cp, m_cpk] at this; exact this) | omega
        exact q_iret (v := (nI ((m_chg n M i ((M 6 i) + 1)) 6 i))) hC hG hr hlk (⟨by simp only [m_timeout, if_neg c5, if_pos c18, if_neg c18n, if_neg c33, t_i, ↓reduceIte], by simp only [m_timeout, if_neg c5, if_pos c18, if_neg c18n, if_neg c33, t_i, ↓reduceIte]⟩) dX5_timeout_58
      · refine lv_bipush (v := -4) hx hb dX5_timeout_36 (by decide) ?_
        exact q_iret (v := (-4)) hC hG hr hlk (⟨by simp only [m_timeout, if_neg c5, if_pos c18, if_neg c18n, if_pos c33, t_i, ↓reduceIte], by simp only [m_timeout, if_neg c5, if_pos c18, if_neg c18n, if_pos c33, t_i, ↓reduceIte]⟩) dX5_timeout_38
    · have c18n := Nat.not_lt.mpr c18
      refine lv_bipush (v := -3) hx hb dX5_timeout_21 (by decide) ?_
      exact q_iret (v := (-3)) hC hG hr hlk (⟨by simp only [m_timeout, if_neg c5, if_pos c18, if_neg c18n, t_i, ↓reduceIte], by simp only [m_timeout, if_neg c5, if_pos c18, if_neg c18n, t_i, ↓reduceIte]⟩) dX5_timeout_23
  · refine lv_bipush (v := -2) hx hb dX5_timeout_8 (by decide) ?_
    exact q_iret (v := (-2)) hC hG hr hlk (⟨by simp only [m_timeout, if_pos c5, ↓reduceIte], by simp only [m_timeout, if_pos c5, ↓reduceIte]⟩) dX5_timeout_10

def m_resend (n : Nat) (M : MM) (node : Int32) : Int32 × MM :=
  if m_isNode n node = 0 then (-2, M) else if M 5 (tN node) = 0 then
    (if m_fst n M (tN node) = 0 then (nI 1, m_pok n M (tN node)) else (nI (n - 1), m_pa M (tN node) 1 (M 6 (tN node)) 0 n))
  else if M 5 (tN node) = 1 then
    (if m_pa M (tN node) 3 (M 6 (tN node)) 0 n 8 (tN node) = 0 then (nI (n - 1), m_pa M (tN node) 3 (M 6 (tN node)) 0 n) else if m_fst n (m_pa M (tN node) 3 (M 6 (tN node)) 0 n) (tN node) = 0 then
      (nI (n - 1 + 1), m_post (m_pa M (tN node) 3 (M 6 (tN node)) 0 n) (tN node) (m_pa M (tN node) 3 (M 6 (tN node)) 0 n 6 (tN node) % n) 4 (m_pa M (tN node) 3 (M 6 (tN node)) 0 n 6 (tN node)) (m_pa M (tN node) 3 (M 6 (tN node)) 0 n 7 (tN node)))
      else (nI (n - 1), m_pa M (tN node) 3 (M 6 (tN node)) 0 n))
  else if M 5 (tN node) = 2 then (nI (n - 1), m_pa M (tN node) 6 0 (M 9 (tN node)) n) else (-3, M)

abbrev rmX5_resend : Room := { frames := 3, cells := 0, slots := 0, locals := 73 }
set_option maxHeartbeats 4000000 in
set_option maxRecDepth 100000 in
theorem k_X5_resend (l : Launch) (D : va_G) (cA : Nat → ClassId) (A : Nat → Prop) {mb n f : Nat} {X : Mem} {M : MM} (hS : mS mb n f X) (hB : bM M) (node : Int32) : mt l D cA A yX5_resend wsX5_resend rmX5_resend [.ref mb, .int node] (sM mb X M) (fun w Y => w = some (.int (m_resend n M node).1) ∧ Y = sM mb X (m_resend n M node).2) := by
  refine q_start (by decide) rfl (Nat.le_of_ble_eq_true rfl) (fun p e s m args below meth c H locs hC hr hlk hnm hG ls hl => ?_)
  have hl : lv_has ls 3 [(0, .ref mb), (1, .int node)] := hl
  have hx := hC.1.1
  have hb := hC.1.2.1
  have hts := hC.1.2.2.2.2
  have i5 : ∀ w ∈ wsX50, w ∈ wsX5_resend := by decide +kernel
  have hnf := hS.2.2.2.2
  have k19 := hts (.fieldLink RX5 19 "ViewStampsModel" "status" "[I") (by decide +kernel)
  have k22 := hts (.fieldLink RX5 22 "ViewStampsModel" "view" "[I") (by decide +kernel)
  have k25 := hts (.fieldLink RX5 25 "ViewStampsModel" "lastView" "[I") (by decide +kernel)
  have k28 := hts (.fieldLink RX5 28 "ViewStampsModel" "voted" "[Z") (by decide +kernel)
  have k32 := hts (.fieldLink RX5 32 "ViewStampsModel" "nonce" "[I") (by decide +kernel)
  have k77 := hts (.fieldLink RX5 77 "ViewStampsModel" "n" "I") (by decide +kernel)
  refine lv_aload_n hx hb dX5_resend_0 rfl (lv_at hl 0 rfl) ?_
  refine lv_iload_n hx hb dX5_resend_1 rfl (lv_at hl 1 rfl) ?_
  refine q_callV (rest := []) (k_X5_isNode l D cA A hS hB node) hC hG cF5 hS.1 1 gX5_resend_X5_isNode rfl (by decide +kernel) ⟨by decide, by decide⟩ rfl hl.1 rfl (by simp [Value.category]) dX5_resend_2 ⟨Nat.le_of_ble_eq_true rfl, Nat.le_of_ble_eq_true rfl⟩ (fun v Y H locs hq hG => ?_)
  obtain ⟨rfl, rfl⟩ := hq
  have q2 : m_isNode n node ≤ 1 := m_in_le _ _ _
  refine n_ifne (tgt := 11) hC dX5_resend_5 (by decide) (by omega) (fun c5 => ?_) (fun c5 => ?_)
  · obtain ⟨i, hi, rfl⟩ := m_isNode_of (n := n) (by omega) (by omega) c5
    have t_i : tN (nI i) = i := tN_nI (by omega)
    refine lv_aload_n hx hb dX5_resend_11 rfl (lv_at hl 0 rfl) ?_
    refine q_mg hC hG hS i5 5 rfl k19 dX5_resend_12 ?_
    refine lv_iload_n hx hb dX5_resend_15 rfl (lv_at hl 1 rfl) ?_
    refine q_ml (N := 5) (w := M 5 i) hC hG hS 5 rfl rfl rfl (by omega) rfl dX5_resend_16 ?_
    have b1 : M 5 i < 2147483648 := by have := hB.1 5 i rfl; first | exact this | (simp [up2, m_cp, m_cpk] at this; exact this) | omega
    by_cases c17x0 : M 5 i = 0
    · refine lv_tableIn (off := 27) (tgt := 44) hx hb dX5_resend_17 (by rw [c17x0]; decide +kernel) (by rw [c17x0]; decide +kernel) (by rw [c17x0]; decide +kernel) (by decide) ?_
      refine lv_aload_n hx hb dX5_resend_44 rfl (lv_at hl 0 rfl) ?_
      refine lv_iload_n hx hb dX5_resend_45 rfl (lv_at hl 1 rfl) ?_
      refine q_callV (rest := []) (k_X5_isFirst l D cA A hS hB i (by omega)) hC hG cF5 hS.1 1 gX5_resend_X5_isFirst rfl (by decide +kernel) ⟨by decide, by decide⟩ rfl hl.1 rfl (by simp [Value.category]) dX5_resend_46 ⟨Nat.le_of_ble_eq_true rfl, Nat.le_of_ble_eq_true rfl⟩ (fun v Y H locs hq hG => ?_)
      obtain ⟨rfl, rfl⟩ := hq
      have q46 := m_fst_le n M i
      refine n_ifeq (tgt := 66) hC dX5_resend_49 (by decide) (by omega) (fun c49 => ?_) (fun c49 => ?_)
      · refine lv_aload_n hx hb dX5_resend_66 rfl (lv_at hl 0 rfl) ?_
        refine lv_iload_n hx hb dX5_resend_67 rfl (lv_at hl 1 rfl) ?_
        refine q_callV (rest := []) (k_X5_postOk l D cA A hS hB i (by omega)) hC hG cF5 hS.1 1 gX5_resend_X5_postOk rfl (by decide +kernel) ⟨by decide, by decide⟩ rfl hl.1 rfl (by simp [Value.category]) dX5_resend_68 ⟨Nat.le_of_ble_eq_true rfl, Nat.le_of_ble_eq_true rfl⟩ (fun v Y H locs hq hG => ?_)
        obtain ⟨rfl, rfl⟩ := hq
        have hB := bM_pok (n := n) (i := i) hB (by omega) (by omega)
        refine n_iconst hC 1 dX5_resend_71 ?_
        exact q_iret (v := (nI 1)) hC hG hr hlk (⟨by simp only [m_resend, if_neg c5, if_pos c17x0, if_pos c49, t_i, ↓reduceIte], by simp only [m_resend, if_neg c5, if_pos c17x0, if_pos c49, t_i, ↓reduceIte]⟩) dX5_resend_72
      · refine lv_aload_n hx hb dX5_resend_52 rfl (lv_at hl 0 rfl) ?_
        refine lv_iload_n hx hb dX5_resend_53 rfl (lv_at hl 1 rfl) ?_
        refine n_iconst hC 1 dX5_resend_54 ?_
        refine lv_aload_n hx hb dX5_resend_55 rfl (lv_at hl 0 rfl) ?_
        refine q_mg hC hG hS i5 6 rfl k22 dX5_resend_56 ?_
        refine lv_iload_n hx hb dX5_resend_59 rfl (lv_at hl 1 rfl) ?_
        refine q_ml (N := 5) (w := M 6 i) hC hG hS 6 rfl rfl rfl (by omega) rfl dX5_resend_60 ?_
        have b2 : M 6 i < 2147483648 := by have := hB.1 6 i rfl; first | exact this | (simp [up2, m_cp, m_cpk] at this; exact this) | omega
        refine n_iconst hC 0 dX5_resend_61 ?_
        refine q_callV (rest := []) (k_X5_postAll l D cA A hS hB i 1 (M 6 i) 0 (by omega) (by omega) (by omega) (by omega)) hC hG cF5 hS.1 4 gX5_resend_X5_postAll rfl (by decide +kernel) ⟨by decide, by decide⟩ rfl hl.1 rfl (by simp [Value.category]) dX5_resend_62 ⟨Nat.le_of_ble_eq_true rfl, Nat.le_of_ble_eq_true rfl⟩ (fun v Y H locs hq hG => ?_)
        obtain ⟨rfl, rfl⟩ := hq
        have hB := bM_pa (i := i) (k := 1) (v := M 6 i) (c := 0) hB (by omega) (by omega) (by omega) (by omega) n (by omega)
        exact q_iret (v := (nI (n - 1))) hC hG hr hlk (⟨by simp only [m_resend, if_neg c5, if_pos c17x0, if_neg c49, t_i, ↓reduceIte], by simp only [m_resend, if_neg c5, if_pos c17x0, if_neg c49, t_i, ↓reduceIte]⟩) dX5_resend_65
    by_cases c17x1 : M 5 i = 1
    · refine lv_tableIn (off := 56) (tgt := 73) hx hb dX5_resend_17 (by rw [c17x1]; decide +kernel) (by rw [c17x1]; decide +kernel) (by rw [c17x1]; decide +kernel) (by decide) ?_
      refine lv_aload_n hx hb dX5_resend_73 rfl (lv_at hl 0 rfl) ?_
      refine lv_iload_n hx hb dX5_resend_74 rfl (lv_at hl 1 rfl) ?_
      refine n_iconst hC 3 dX5_resend_75 ?_
      refine lv_aload_n hx hb dX5_resend_76 rfl (lv_at hl 0 rfl) ?_
      refine q_mg hC hG hS i5 6 rfl k22 dX5_resend_77 ?_
      refine lv_iload_n hx hb dX5_resend_80 rfl (lv_at hl 1 rfl) ?_
      refine q_ml (N := 5) (w := M 6 i) hC hG hS 6 rfl rfl rfl (by omega) rfl dX5_resend_81 ?_
      have b3 : M 6 i < 2147483648 := by have := hB.1 6 i rfl; first | exact this | (simp [up2, m_cp, m_cpk] at this; exact this) | omega
      refine n_iconst hC 0 dX5_resend_82 ?_
      refine q_callV (rest := []) (k_X5_postAll l D cA A hS hB i 3 (M 6 i) 0 (by omega) (by omega) (by omega) (by omega)) hC hG cF5 hS.1 4 gX5_resend_X5_postAll rfl (by decide +kernel) ⟨by decide, by decide⟩ rfl hl.1 rfl (by simp [Value.category]) dX5_resend_83 ⟨Nat.le_of_ble_eq_true rfl, Nat.le_of_ble_eq_true rfl⟩ (fun v Y H locs hq hG => ?_)
      obtain ⟨rfl, rfl⟩ := hq
      have hB := bM_pa (i := i) (k := 3) (v := M 6 i) (c := 0) hB (by omega) (by omega) (by omega) (by omega) n (by omega)
      refine lv_istore_n (lv' := [(2, .int (nI (n - 1))), (0, .ref mb), (1, .int (nI i))]) hx hb dX5_resend_86 rfl hl (by decide) rfl (fun ls hl => ?_)
      refine lv_aload_n hx hb dX5_resend_87 rfl (lv_at hl 1 rfl) ?_
      refine q_mg hC hG hS i5 8 rfl k28 dX5_resend_88 ?_
      refine lv_iload_n hx hb dX5_resend_91 rfl (lv_at hl 2 rfl) ?_
      refine q_mlz (N := 5) (w := (m_pa M i 3 (M 6 i) 0 n) 8 i) hC hG hS 8 rfl rfl rfl (by omega) rfl dX5_resend_92 ?_
      have b4 : (m_pa M i 3 (M 6 i) 0 n) 8 i < 2147483648 := by have := hB.1 8 i rfl; first | exact this | (simp [up2, m_cp, m_cpk] at this; exact this) | omega
      refine n_ifeq (tgt := 136) hC dX5_resend_93 (by decide) (by omega) (fun c93 => ?_) (fun c93 => ?_)
      · refine lv_iload_n hx hb dX5_resend_136 rfl (lv_at hl 0 rfl) ?_
        exact q_iret (v := (nI (n - 1))) hC hG hr hlk (⟨by simp only [m_resend, if_neg c5, if_neg c17x0, if_pos c17x1, if_pos c93, t_i, ↓reduceIte], by simp only [m_resend, if_neg c5, if_neg c17x0, if_pos c17x1, if_pos c93, t_i, ↓reduceIte]⟩) dX5_resend_137
      · refine lv_aload_n hx hb dX5_resend_96 rfl (lv_at hl 1 rfl) ?_
        refine lv_iload_n hx hb dX5_resend_97 rfl (lv_at hl 2 rfl) ?_
        refine q_callV (rest := []) (k_X5_isFirst l D cA A hS hB i (by omega)) hC hG cF5 hS.1 1 gX5_resend_X5_isFirst rfl (by decide +kernel) ⟨by decide, by decide⟩ rfl hl.1 rfl (by simp [Value.category]) dX5_resend_98 ⟨Nat.le_of_ble_eq_true rfl, Nat.le_of_ble_eq_true rfl⟩ (fun v Y H locs hq hG => ?_)
        obtain ⟨rfl, rfl⟩ := hq
        have q98 := m_fst_le n (m_pa M i 3 (M 6 i) 0 n) i
        refine n_ifne (tgt := 136) hC dX5_resend_101 (by decide) (by omega) (fun c101 => ?_) (fun c101 => ?_)
        · refine lv_iload_n hx hb dX5_resend_136 rfl (lv_at hl 0 rfl) ?_
          exact q_iret (v := (nI (n - 1))) hC hG hr hlk (⟨by simp only [m_resend, if_neg c5, if_neg c17x0, if_pos c17x1, if_neg c93, if_neg c101, t_i, ↓reduceIte], by simp only [m_resend, if_neg c5, if_neg c17x0, if_pos c17x1, if_neg c93, if_neg c101, t_i, ↓reduceIte]⟩) dX5_resend_137
        · refine lv_aload_n hx hb dX5_resend_104 rfl (lv_at hl 1 rfl) ?_
          refine lv_iload_n hx hb dX5_resend_105 rfl (lv_at hl 2 rfl) ?_
          refine lv_aload_n hx hb dX5_resend_106 rfl (lv_at hl 1 rfl) ?_
          refine q_mg hC hG hS i5 6 rfl k22 dX5_resend_107 ?_
          refine lv_iload_n hx hb dX5_resend_110 rfl (lv_at hl 2 rfl) ?_
          refine q_ml (N := 5) (w := (m_pa M i 3 (M 6 i) 0 n) 6 i) hC hG hS 6 rfl rfl rfl (by omega) rfl dX5_resend_111 ?_
          have b5 : (m_pa M i 3 (M 6 i) 0 n) 6 i < 2147483648 := by have := hB.1 6 i rfl; first | exact this | (simp [up2, m_cp, m_cpk] at this; exact this) | omega
          refine lv_aload_n hx hb dX5_resend_112 rfl (lv_at hl 1 rfl) ?_
          refine q_mn hC hG hS i5 k77 dX5_resend_113 ?_
          refine n_irem hC (by omega) (by omega) (by omega) dX5_resend_116 ?_
          have r116 : ((m_pa M i 3 (M 6 i) 0 n) 6 i) % n < n := Nat.mod_lt _ (by omega)
          refine n_iconst hC 4 dX5_resend_117 ?_
          refine lv_aload_n hx hb dX5_resend_118 rfl (lv_at hl 1 rfl) ?_
          refine q_mg hC hG hS i5 6 rfl k22 dX5_resend_119 ?_
          refine lv_iload_n hx hb dX5_resend_122 rfl (lv_at hl 2 rfl) ?_
          refine q_ml (N := 5) (w := (m_pa M i 3 (M 6 i) 0 n) 6 i) hC hG hS 6 rfl rfl rfl (by omega) rfl dX5_resend_123 ?_
          have b6 : (m_pa M i 3 (M 6 i) 0 n) 6 i < 2147483648 := by have := hB.1 6 i rfl; first | exact this | (simp [up2, m_cp, m_cpk] at this; exact this) | omega
          refine lv_aload_n hx hb dX5_resend_124 rfl (lv_at hl 1 rfl) ?_
          refine q_mg hC hG hS i5 7 rfl k25 dX5_resend_125 ?_
          refine lv_iload_n hx hb dX5_resend_128 rfl (lv_at hl 2 rfl) ?_
          refine q_ml (N := 5) (w := (m_pa M i 3 (M 6 i) 0 n) 7 i) hC hG hS 7 rfl rfl rfl (by omega) rfl dX5_resend_129 ?_
          have b7 : (m_pa M i 3 (M 6 i) 0 n) 7 i < 2147483648 := by have := hB.1 7 i rfl; first | exact this | (simp [up2, m_cp, m_cpk] at this; exact this) | omega
          refine q_callV (rest := []) (k_X5_post l D cA A hS hB i (((m_pa M i 3 (M 6 i) 0 n) 6 i) % n) 4 ((m_pa M i 3 (M 6 i) 0 n) 6 i) ((m_pa M i 3 (M 6 i) 0 n) 7 i) (by omega) (by omega) (by omega) (by omega) (by omega)) hC hG cF5 hS.1 5 gX5_resend_X5_post rfl (by decide +kernel) ⟨by decide, by decide⟩ rfl hl.1 rfl (by simp [Value.category]) dX5_resend_130 ⟨Nat.le_of_ble_eq_true rfl, Nat.le_of_ble_eq_true rfl⟩ (fun v Y H locs hq hG => ?_)
          obtain ⟨rfl, rfl⟩ := hq
          have hB := bM_post (i := i) (j := ((m_pa M i 3 (M 6 i) 0 n) 6 i) % n) (k := 4) (v := (m_pa M i 3 (M 6 i) 0 n) 6 i) (c := (m_pa M i 3 (M 6 i) 0 n) 7 i) hB (by omega) (by omega) (by omega) (by omega) (by omega)
          refine n_iinc (n := 1) (k := 0) (lv' := [(2, .int (nI ((n - 1) + 1))), (0, .ref mb), (1, .int (nI i))]) hC dX5_resend_133 hl rfl (by decide) rfl (fun ls hl => ?_)
          refine lv_iload_n hx hb dX5_resend_136 rfl (lv_at hl 0 rfl) ?_
          exact q_iret (v := (nI ((n - 1) + 1))) hC hG hr hlk (⟨by simp only [m_resend, if_neg c5, if_neg c17x0, if_pos c17x1, if_neg c93, if_pos c101, t_i, ↓reduceIte], by simp only [m_resend, if_neg c5, if_neg c17x0, if_pos c17x1, if_neg c93, if_pos c101, t_i, ↓reduceIte]⟩) dX5_resend_137
    by_cases c17x2 : M 5 i = 2
    · refine lv_tableIn (off := 121) (tgt := 138) hx hb dX5_resend_17 (by rw [c17x2]; decide +kernel) (by rw [c17x2]; decide +kernel) (by rw [c17x2]; decide +kernel) (by decide) ?_
      refine lv_aload_n hx hb dX5_resend_138 rfl (lv_at hl 0 rfl) ?_
      refine lv_iload_n hx hb dX5_resend_139 rfl (lv_at hl 1 rfl) ?_
      refine n_bipush hC 6 (by decide) dX5_resend_140 ?_
      refine n_iconst hC 0 dX5_resend_142 ?_
      refine lv_aload_n hx hb dX5_resend_143 rfl (lv_at hl 0 rfl) ?_
      refine q_mg hC hG hS i5 9 rfl k32 dX5_resend_144 ?_
      refine lv_iload_n hx hb dX5_resend_147 rfl (lv_at hl 1 rfl) ?_
      refine q_ml (N := 5) (w := M 9 i) hC hG hS 9 rfl rfl rfl (by omega) rfl dX5_resend_148 ?_
      have b8 : M 9 i < 2147483648 := by have := hB.1 9 i rfl; first | exact this | (simp [up2, m_cp, m_cpk] at this; exact this) | omega
      refine q_callV (rest := []) (k_X5_postAll l D cA A hS hB i 6 0 (M 9 i) (by omega) (by omega) (by omega) (by omega)) hC hG cF5 hS.1 4 gX5_resend_X5_postAll rfl (by decide +kernel) ⟨by decide, by decide⟩ rfl hl.1 rfl (by simp [Value.category]) dX5_resend_149 ⟨Nat.le_of_ble_eq_true rfl, Nat.le_of_ble_eq_true rfl⟩ (fun v Y H locs hq hG => ?_)
      obtain ⟨rfl, rfl⟩ := hq
      have hB := bM_pa (i := i) (k := 6) (v := 0) (c := M 9 i) hB (by omega) (by omega) (by omega) (by omega) n (by omega)
      exact q_iret (v := (nI (n - 1))) hC hG hr hlk (⟨by simp only [m_resend, if_neg c5, if_neg c17x0, if_neg c17x1, if_pos c17x2, t_i, ↓reduceIte], by simp only [m_resend, if_neg c5, if_neg c17x0, if_neg c17x1, if_pos c17x2, t_i, ↓reduceIte]⟩) dX5_resend_152
    refine lv_tableOut (tgt := 153) hx hb dX5_resend_17 (by rw [nI_toInt (by omega)]; omega) (by decide) ?_
    refine lv_bipush (v := -3) hx hb dX5_resend_153 (by decide) ?_
    exact q_iret (v := (-3)) hC hG hr hlk (⟨by simp only [m_resend, if_neg c5, if_neg c17x0, if_neg c17x1, if_neg c17x2, t_i, ↓reduceIte], by simp only [m_resend, if_neg c5, if_neg c17x0, if_neg c17x1, if_neg c17x2, t_i, ↓reduceIte]⟩) dX5_resend_155
  · refine lv_bipush (v := -2) hx hb dX5_resend_8 (by decide) ?_
    exact q_iret (v := (-2)) hC hG hr hlk (⟨by simp only [m_resend, if_pos c5, ↓reduceIte], by simp only [m_resend, if_pos c5, ↓reduceIte]⟩) dX5_resend_10

def m_cz (M : MM) (i k : Nat) : MM := fun x y => if (x = 10 ∨ x = 14) ∧ 5 * i ≤ y ∧ y < 5 * i + k then 0 else M x y
theorem m_cz_s (M : MM) (i k : Nat) : up2 (up2 (m_cz M i k) 10 (5 * i + k) 0) 14 (5 * i + k) 0 = m_cz M i (k + 1) := by
  funext x y
  unfold up2 m_cz
  by_cases h1 : x = 10
  · subst h1
    by_cases hy : y = 5 * i + k
    · subst hy; simp
    · have : (5 * i ≤ y ∧ y < 5 * i + k) ↔ (5 * i ≤ y ∧ y < 5 * i + (k + 1)) := by omega
      simp [hy, this]
  · by_cases h2 : x = 14
    · subst h2
      by_cases hy : y = 5 * i + k
      · subst hy; simp
      · have : (5 * i ≤ y ∧ y < 5 * i + k) ↔ (5 * i ≤ y ∧ y < 5 * i + (k + 1)) := by omega
        simp [hy, this]
    · simp [h1, h2]
theorem m_cz_0 (M : MM) (i : Nat) : m_cz M i 0 = M := by
  funext x y
  unfold m_cz
  rw [if_neg (by omega)]
theorem bM_cz {M : MM} (h : bM M) (i k : Nat) : bM (m_cz M i k) := by
  refine ⟨fun x y hx => ?_, ?_⟩
  · unfold m_cz
    split
    · decide
    · exact h.1 x y hx
  · have : m_cz M i k 17 0 = M 17 0 := by simp [m_cz]
    rw [this]; exact h.2
def m_cr1 (M : MM) (i : Nat) : MM := m_fg (up2 (up2 (up2 (up2 (up2 M 5 i 3) 6 i 0) 7 i 0) 3 i 0) 4 i 0) i
def m_crash (n : Nat) (M : MM) (node : Int32) : Int32 × MM :=
  if m_isNode n node = 0 then (-2, M) else if M 5 (tN node) = 3 then (-3, M) else (nI (M 3 (tN node)), m_cz (m_cr1 M (tN node)) (tN node) 5)
theorem bM_cr1 {M : MM} (h : bM M) (i : Nat) : bM (m_cr1 M i) := bM_fg (bM_up (bM_up (bM_up (bM_up (bM_up h 5 i (by decide)) 6 i (by decide)) 7 i (by decide)) 3 i (by decide)) 4 i (by decide)) i
def m_tz (M : MM) (i k : Nat) : MM := fun x y => if x = 14 ∧ 5 * i ≤ y ∧ y < 5 * i + k then 0 else M x y
theorem m_tz_s (M : MM) (i k : Nat) : up2 (m_tz M i k) 14 (5 * i + k) 0 = m_tz M i (k + 1) := by
  funext x y
  unfold up2 m_tz
  by_cases h1 : x = 14
  · subst h1
    by_cases hy : y = 5 * i + k
    · subst hy; simp
    · have : (5 * i ≤ y ∧ y < 5 * i + k) ↔ (5 * i ≤ y ∧ y < 5 * i + (k + 1)) := by omega
      simp [hy, this]
  · simp [h1]
theorem m_tz_0 (M : MM) (i : Nat) : m_tz M i 0 = M := by
  funext x y
  unfold m_tz
  rw [if_neg (by omega)]
theorem bM_tz {M : MM} (h : bM M) (i k : Nat) : bM (m_tz M i k) := by
  refine ⟨fun x y hx => ?_, ?_⟩
  · unfold m_tz
    split
    · decide
    · exact h.1 x y hx
  · have : m_tz M i k 17 0 = M 17 0 := by simp [m_tz]
    rw [this]; exact h.2
def m_rc1 (M : MM) (i c : Nat) : MM := m_tz (up2 (up2 M 5 i 2) 9 i c) i 5
def m_recover (n : Nat) (M : MM) (node nonce : Int32) : Int32 × MM :=
  if m_isNode n node = 0 then (-2, M) else if m_in nonce (nI 0) (nI 1000000) = 0 then (-2, M) else if M 5 (tN node) = 3 then (nI 1, m_pa (m_rc1 M (tN node) (tN nonce)) (tN node) 6 0 (tN nonce) n) else (-3, M)
theorem bM_rc1 {M : MM} (h : bM M) (i : Nat) {c : Nat} (hc : c < 2147483648) : bM (m_rc1 M i c) := bM_tz (bM_up (bM_up h 5 i (by decide)) 9 i hc) i 5

abbrev rmX5_crash : Room := { frames := 2, cells := 0, slots := 0, locals := 43 }
set_option maxHeartbeats 4000000 in
set_option maxRecDepth 100000 in
theorem k_X5_crash (l : Launch) (D : va_G) (cA : Nat → ClassId) (A : Nat → Prop) {mb n f : Nat} {X : Mem} {M : MM} (hS : mS mb n f X) (hB : bM M) (node : Int32) : mt l D cA A yX5_crash wsX5_crash rmX5_crash [.ref mb, .int node] (sM mb X M) (fun w Y => w = some (.int (m_crash n M node).1) ∧ Y = sM mb X (m_crash n M node).2) := by
  refine q_start (by decide) rfl (Nat.le_of_ble_eq_true rfl) (fun p e s m args below meth c H locs hC hr hlk hnm hG ls hl => ?_)
  have hl : lv_has ls 4 [(0, .ref mb), (1, .int node)] := hl
  have hx := hC.1.1
  have hb := hC.1.2.1
  have hts := hC.1.2.2.2.2
  have i5 : ∀ w ∈ wsX50, w ∈ wsX5_crash := by decide +kernel
  have hnf := hS.2.2.2.2
  have hB0 := hB
  have k13 := hts (.fieldLink RX5 13 "ViewStampsModel" "many" "[I") (by decide +kernel)
  have k16 := hts (.fieldLink RX5 16 "ViewStampsModel" "sure" "[I") (by decide +kernel)
  have k19 := hts (.fieldLink RX5 19 "ViewStampsModel" "status" "[I") (by decide +kernel)
  have k22 := hts (.fieldLink RX5 22 "ViewStampsModel" "view" "[I") (by decide +kernel)
  have k25 := hts (.fieldLink RX5 25 "ViewStampsModel" "lastView" "[I") (by decide +kernel)
  have k35 := hts (.fieldLink RX5 35 "ViewStampsModel" "knows" "[I") (by decide +kernel)
  have k47 := hts (.fieldLink RX5 47 "ViewStampsModel" "hasTale" "[Z") (by decide +kernel)
  have loop : ∀ (d : Nat) (i k : Nat) (H : Heap) (locs : List Loc) (ls : Array Slot), 5 - k < d → i < n → k ≤ 5 → (nI (M 3 i), m_cz (m_cr1 M i) i 5) = m_crash n M node → gw D cA A (sM mb X (m_cz (m_cr1 M i) i k)) s.heap H locs → lv_has ls 4 [(0, .ref mb), (1, .int (nI i)), (2, .int (nI (M 3 i))), (3, .int (nI k))] → W p l e rmX5_crash s m args below meth c H locs 0 0 (MQ below (mQ D cA A (fun w Y => w = some (.int (m_crash n M node).1) ∧ Y = sM mb X (m_crash n M node).2)) args s rmX5_crash.cells rmX5_crash.slots A) (F0 m 73 ls []) := by
    intro d
    induction d with
    | zero => intro i k H locs ls hd; exact absurd hd (Nat.not_lt_zero _)
    | succ d ih =>
      intro i k H locs ls hd hi hk hT hG hl
      have hB := bM_cz (bM_cr1 hB0 i) i k
      refine lv_iload_n hx hb dX5_crash_73 rfl (lv_at hl 3 rfl) ?_
      refine n_iconst hC 5 dX5_crash_74 ?_
      refine n_ge (tgt := 106) hC dX5_crash_75 (by decide) (by omega) (by omega) (fun c75 => ?_) (fun c75 => ?_)
      · have c75n := Nat.not_lt.mpr c75
        refine lv_iload_n hx hb dX5_crash_106 rfl (lv_at hl 2 rfl) ?_
        exact q_iret (v := (nI (M 3 i))) hC hG hr hlk (⟨by rw [← hT], by rw [← hT, show k = 5 by omega]⟩) dX5_crash_107
      · have c75n := Nat.not_le.mpr c75
        refine lv_aload_n hx hb dX5_crash_78 rfl (lv_at hl 0 rfl) ?_
        refine q_mg hC hG hS i5 10 rfl k35 dX5_crash_79 ?_
        refine n_iconst hC 5 dX5_crash_82 ?_
        refine lv_iload_n hx hb dX5_crash_83 rfl (lv_at hl 1 rfl) ?_
        refine n_imul hC dX5_crash_84 ?_
        refine lv_iload_n hx hb dX5_crash_85 rfl (lv_at hl 3 rfl) ?_
        refine n_iadd hC dX5_crash_86 ?_
        refine n_iconst hC 0 dX5_crash_87 ?_
        refine q_ms (N := 25) hC hG hS 10 rfl rfl rfl (by omega) dX5_crash_88 (fun H locs hG => ?_)
        have hB := bM_up hB 10 ((5 * i) + k) (v := 0) (by omega)
        refine lv_aload_n hx hb dX5_crash_89 rfl (lv_at hl 0 rfl) ?_
        refine q_mg hC hG hS i5 14 rfl k47 dX5_crash_90 ?_
        refine n_iconst hC 5 dX5_crash_93 ?_
        refine lv_iload_n hx hb dX5_crash_94 rfl (lv_at hl 1 rfl) ?_
        refine n_imul hC dX5_crash_95 ?_
        refine lv_iload_n hx hb dX5_crash_96 rfl (lv_at hl 3 rfl) ?_
        refine n_iadd hC dX5_crash_97 ?_
        refine n_iconst hC 0 dX5_crash_98 ?_
        refine q_msz (N := 25) hC hG hS 14 rfl rfl rfl (by omega) (by omega) dX5_crash_99 (fun H locs hG => ?_)
        have hB := bM_up hB 14 ((5 * i) + k) (v := 0) (by omega)
        refine n_iinc (n := 1) (k := 3) (lv' := [(3, .int (nI (k + 1))), (0, .ref mb), (1, .int (nI i)), (2, .int (nI (M 3 i)))]) hC dX5_crash_100 hl rfl (by decide) rfl (fun ls hl => ?_)
        refine lv_goto (tgt := 73) hx hb dX5_crash_103 (by decide) ?_
        have hG : gw D cA A (sM mb X (up2 (up2 (m_cz (m_cr1 M i) i k) 10 (5 * i + k) 0) 14 (5 * i + k) 0)) _ _ _ := hG
        rw [m_cz_s] at hG
        exact ih i (k + 1) _ _ _ (by omega) hi (by omega) hT hG (lv_sub hl [1, 2, 3, 0] rfl)
  refine lv_aload_n hx hb dX5_crash_0 rfl (lv_at hl 0 rfl) ?_
  refine lv_iload_n hx hb dX5_crash_1 rfl (lv_at hl 1 rfl) ?_
  refine q_callV (rest := []) (k_X5_isNode l D cA A hS hB node) hC hG cF5 hS.1 1 gX5_crash_X5_isNode rfl (by decide +kernel) ⟨by decide, by decide⟩ rfl hl.1 rfl (by simp [Value.category]) dX5_crash_2 ⟨Nat.le_of_ble_eq_true rfl, Nat.le_of_ble_eq_true rfl⟩ (fun v Y H locs hq hG => ?_)
  obtain ⟨rfl, rfl⟩ := hq
  have q2 : m_isNode n node ≤ 1 := m_in_le _ _ _
  refine n_ifne (tgt := 11) hC dX5_crash_5 (by decide) (by omega) (fun c5 => ?_) (fun c5 => ?_)
  · obtain ⟨i, hi, rfl⟩ := m_isNode_of (n := n) (by omega) (by omega) c5
    have t_i : tN (nI i) = i := tN_nI (by omega)
    refine lv_aload_n hx hb dX5_crash_11 rfl (lv_at hl 0 rfl) ?_
    refine q_mg hC hG hS i5 5 rfl k19 dX5_crash_12 ?_
    refine lv_iload_n hx hb dX5_crash_15 rfl (lv_at hl 1 rfl) ?_
    refine q_ml (N := 5) (w := M 5 i) hC hG hS 5 rfl rfl rfl (by omega) rfl dX5_crash_16 ?_
    have b1 : M 5 i < 2147483648 := by have := hB.1 5 i rfl; first | exact this | (simp [up2, m_cp, m_cpk] at this; exact this) | omega
    refine n_iconst hC 3 dX5_crash_17 ?_
    refine n_ne (tgt := 24) hC dX5_crash_18 (by decide) (by omega) (by omega) (fun c18 => ?_) (fun c18 => ?_)
    · refine lv_aload_n hx hb dX5_crash_24 rfl (lv_at hl 0 rfl) ?_
      refine q_mg hC hG hS i5 3 rfl k13 dX5_crash_25 ?_
      refine lv_iload_n hx hb dX5_crash_28 rfl (lv_at hl 1 rfl) ?_
      refine q_ml (N := 295) (w := M 3 i) hC hG hS 3 rfl rfl rfl (by omega) rfl dX5_crash_29 ?_
      have b2 : M 3 i < 2147483648 := by have := hB.1 3 i rfl; first | exact this | (simp [up2, m_cp, m_cpk] at this; exact this) | omega
      refine lv_istore_n (lv' := [(2, .int (nI (M 3 i))), (0, .ref mb), (1, .int (nI i))]) hx hb dX5_crash_30 rfl hl (by decide) rfl (fun ls hl => ?_)
      refine lv_aload_n hx hb dX5_crash_31 rfl (lv_at hl 1 rfl) ?_
      refine q_mg hC hG hS i5 5 rfl k19 dX5_crash_32 ?_
      refine lv_iload_n hx hb dX5_crash_35 rfl (lv_at hl 2 rfl) ?_
      refine n_iconst hC 3 dX5_crash_36 ?_
      refine q_ms (N := 5) hC hG hS 5 rfl rfl rfl (by omega) dX5_crash_37 (fun H locs hG => ?_)
      have hB := bM_up hB 5 i (v := 3) (by omega)
      refine lv_aload_n hx hb dX5_crash_38 rfl (lv_at hl 1 rfl) ?_
      refine q_mg hC hG hS i5 6 rfl k22 dX5_crash_39 ?_
      refine lv_iload_n hx hb dX5_crash_42 rfl (lv_at hl 2 rfl) ?_
      refine n_iconst hC 0 dX5_crash_43 ?_
      refine q_ms (N := 5) hC hG hS 6 rfl rfl rfl (by omega) dX5_crash_44 (fun H locs hG => ?_)
      have hB := bM_up hB 6 i (v := 0) (by omega)
      refine lv_aload_n hx hb dX5_crash_45 rfl (lv_at hl 1 rfl) ?_
      refine q_mg hC hG hS i5 7 rfl k25 dX5_crash_46 ?_
      refine lv_iload_n hx hb dX5_crash_49 rfl (lv_at hl 2 rfl) ?_
      refine n_iconst hC 0 dX5_crash_50 ?_
      refine q_ms (N := 5) hC hG hS 7 rfl rfl rfl (by omega) dX5_crash_51 (fun H locs hG => ?_)
      have hB := bM_up hB 7 i (v := 0) (by omega)
      refine lv_aload_n hx hb dX5_crash_52 rfl (lv_at hl 1 rfl) ?_
      refine q_mg hC hG hS i5 3 rfl k13 dX5_crash_53 ?_
      refine lv_iload_n hx hb dX5_crash_56 rfl (lv_at hl 2 rfl) ?_
      refine n_iconst hC 0 dX5_crash_57 ?_
      refine q_ms (N := 295) hC hG hS 3 rfl rfl rfl (by omega) dX5_crash_58 (fun H locs hG => ?_)
      have hB := bM_up hB 3 i (v := 0) (by omega)
      refine lv_aload_n hx hb dX5_crash_59 rfl (lv_at hl 1 rfl) ?_
      refine q_mg hC hG hS i5 4 rfl k16 dX5_crash_60 ?_
      refine lv_iload_n hx hb dX5_crash_63 rfl (lv_at hl 2 rfl) ?_
      refine n_iconst hC 0 dX5_crash_64 ?_
      refine q_ms (N := 295) hC hG hS 4 rfl rfl rfl (by omega) dX5_crash_65 (fun H locs hG => ?_)
      have hB := bM_up hB 4 i (v := 0) (by omega)
      refine lv_aload_n hx hb dX5_crash_66 rfl (lv_at hl 1 rfl) ?_
      refine lv_iload_n hx hb dX5_crash_67 rfl (lv_at hl 2 rfl) ?_
      refine q_callV (rest := []) (k_X5_forget l D cA A hS hB i (by omega)) hC hG cF5 hS.1 1 gX5_crash_X5_forget rfl (by decide +kernel) ⟨by decide, by decide⟩ rfl hl.1 rfl (by simp [Value.category]) dX5_crash_68 ⟨Nat.le_of_ble_eq_true rfl, Nat.le_of_ble_eq_true rfl⟩ (fun v Y H locs hq hG => ?_)
      obtain ⟨rfl, rfl⟩ := hq
      have hB := bM_fg hB i
      refine n_iconst hC 0 dX5_crash_71 ?_
      refine lv_istore_n (lv' := [(3, .int (nI 0)), (2, .int (nI (M 3 i))), (0, .ref mb), (1, .int (nI i))]) hx hb dX5_crash_72 rfl hl (by decide) rfl (fun ls hl => ?_)
      exact loop 6 i 0 _ _ _ (by omega) hi (by omega) (by simp only [m_crash, if_neg c5, if_neg c18, t_i, ↓reduceIte]) (by rw [m_cz_0]; exact hG) (lv_sub hl [2, 3, 1, 0] rfl)
    · refine lv_bipush (v := -3) hx hb dX5_crash_21 (by decide) ?_
      exact q_iret (v := (-3)) hC hG hr hlk (⟨by simp only [m_crash, if_neg c5, if_pos c18, t_i, ↓reduceIte], by simp only [m_crash, if_neg c5, if_pos c18, t_i, ↓reduceIte]⟩) dX5_crash_23
  · refine lv_bipush (v := -2) hx hb dX5_crash_8 (by decide) ?_
    exact q_iret (v := (-2)) hC hG hr hlk (⟨by simp only [m_crash, if_pos c5, ↓reduceIte], by simp only [m_crash, if_pos c5, ↓reduceIte]⟩) dX5_crash_10

abbrev rmX5_recover : Room := { frames := 3, cells := 0, slots := 0, locals := 73 }
set_option maxHeartbeats 4000000 in
set_option maxRecDepth 100000 in
theorem k_X5_recover (l : Launch) (D : va_G) (cA : Nat → ClassId) (A : Nat → Prop) {mb n f : Nat} {X : Mem} {M : MM} (hS : mS mb n f X) (hB : bM M) (node nonce : Int32) : mt l D cA A yX5_recover wsX5_recover rmX5_recover [.ref mb, .int node, .int nonce] (sM mb X M) (fun w Y => w = some (.int (m_recover n M node nonce).1) ∧ Y = sM mb X (m_recover n M node nonce).2) := by
  refine q_start (by decide) rfl (Nat.le_of_ble_eq_true rfl) (fun p e s m args below meth c H locs hC hr hlk hnm hG ls hl => ?_)
  have hl : lv_has ls 4 [(0, .ref mb), (1, .int node), (2, .int nonce)] := hl
  have hx := hC.1.1
  have hb := hC.1.2.1
  have hts := hC.1.2.2.2.2
  have i5 : ∀ w ∈ wsX50, w ∈ wsX5_recover := by decide +kernel
  have hnf := hS.2.2.2.2
  have hB0 := hB
  have k19 := hts (.fieldLink RX5 19 "ViewStampsModel" "status" "[I") (by decide +kernel)
  have k32 := hts (.fieldLink RX5 32 "ViewStampsModel" "nonce" "[I") (by decide +kernel)
  have k47 := hts (.fieldLink RX5 47 "ViewStampsModel" "hasTale" "[Z") (by decide +kernel)
  have loop : ∀ (d : Nat) (i no k : Nat) (H : Heap) (locs : List Loc) (ls : Array Slot), 5 - k < d → i < n → no ≤ 1000000 → k ≤ 5 → (nI 1, m_pa (m_rc1 M i no) i 6 0 no n) = m_recover n M node nonce → gw D cA A (sM mb X (m_tz (up2 (up2 M 5 i 2) 9 i no) i k)) s.heap H locs → lv_has ls 4 [(0, .ref mb), (1, .int (nI i)), (2, .int (nI no)), (3, .int (nI k))] → W p l e rmX5_recover s m args below meth c H locs 0 0 (MQ below (mQ D cA A (fun w Y => w = some (.int (m_recover n M node nonce).1) ∧ Y = sM mb X (m_recover n M node nonce).2)) args s rmX5_recover.cells rmX5_recover.slots A) (F0 m 50 ls []) := by
    intro d
    induction d with
    | zero => intro i no k H locs ls hd; exact absurd hd (Nat.not_lt_zero _)
    | succ d ih =>
      intro i no k H locs ls hd hi hno hk hT hG hl
      have hB := bM_tz (bM_up (bM_up hB0 5 i (v := 2) (by decide)) 9 i (v := no) (by omega)) i k
      refine lv_iload_n hx hb dX5_recover_50 rfl (lv_at hl 3 rfl) ?_
      refine n_iconst hC 5 dX5_recover_51 ?_
      refine n_ge (tgt := 72) hC dX5_recover_52 (by decide) (by omega) (by omega) (fun c52 => ?_) (fun c52 => ?_)
      · have c52n := Nat.not_lt.mpr c52
        have hk5 : k = 5 := by omega
        subst hk5
        refine lv_aload_n hx hb dX5_recover_72 rfl (lv_at hl 0 rfl) ?_
        refine lv_iload_n hx hb dX5_recover_73 rfl (lv_at hl 1 rfl) ?_
        refine n_bipush hC 6 (by decide) dX5_recover_74 ?_
        refine n_iconst hC 0 dX5_recover_76 ?_
        refine lv_iload_n hx hb dX5_recover_77 rfl (lv_at hl 2 rfl) ?_
        refine q_callV (rest := []) (k_X5_postAll l D cA A hS hB i 6 0 no (by omega) (by omega) (by omega) (by omega)) hC hG cF5 hS.1 4 gX5_recover_X5_postAll rfl (by decide +kernel) ⟨by decide, by decide⟩ rfl hl.1 rfl (by simp [Value.category]) dX5_recover_78 ⟨Nat.le_of_ble_eq_true rfl, Nat.le_of_ble_eq_true rfl⟩ (fun v Y H locs hq hG => ?_)
        obtain ⟨rfl, rfl⟩ := hq
        have hB := bM_pa (i := i) (k := 6) (v := 0) (c := no) hB (by omega) (by omega) (by omega) (by omega) n (by omega)
        refine lv_istore_n (lv' := [(3, .int (nI (n - 1))), (0, .ref mb), (1, .int (nI i)), (2, .int (nI no))]) hx hb dX5_recover_81 rfl hl (by decide) rfl (fun ls hl => ?_)
        refine n_iconst hC 1 dX5_recover_82 ?_
        exact q_iret (v := (nI 1)) hC hG hr hlk (⟨by rw [← hT], by rw [← hT, m_rc1]⟩) dX5_recover_83
      · have c52n := Nat.not_le.mpr c52
        refine lv_aload_n hx hb dX5_recover_55 rfl (lv_at hl 0 rfl) ?_
        refine q_mg hC hG hS i5 14 rfl k47 dX5_recover_56 ?_
        refine n_iconst hC 5 dX5_recover_59 ?_
        refine lv_iload_n hx hb dX5_recover_60 rfl (lv_at hl 1 rfl) ?_
        refine n_imul hC dX5_recover_61 ?_
        refine lv_iload_n hx hb dX5_recover_62 rfl (lv_at hl 3 rfl) ?_
        refine n_iadd hC dX5_recover_63 ?_
        refine n_iconst hC 0 dX5_recover_64 ?_
        refine q_msz (N := 25) hC hG hS 14 rfl rfl rfl (by omega) (by omega) dX5_recover_65 (fun H locs hG => ?_)
        have hB := bM_up hB 14 ((5 * i) + k) (v := 0) (by omega)
        refine n_iinc (n := 1) (k := 3) (lv' := [(3, .int (nI (k + 1))), (0, .ref mb), (1, .int (nI i)), (2, .int (nI no))]) hC dX5_recover_66 hl rfl (by decide) rfl (fun ls hl => ?_)
        refine lv_goto (tgt := 50) hx hb dX5_recover_69 (by decide) ?_
        have hG : gw D cA A (sM mb X (up2 (m_tz (up2 (up2 M 5 i 2) 9 i no) i k) 14 (5 * i + k) 0)) _ _ _ := hG
        rw [m_tz_s] at hG
        exact ih i no (k + 1) _ _ _ (by omega) hi hno (by omega) hT hG (lv_sub hl [1, 2, 3, 0] rfl)
  refine lv_aload_n hx hb dX5_recover_0 rfl (lv_at hl 0 rfl) ?_
  refine lv_iload_n hx hb dX5_recover_1 rfl (lv_at hl 1 rfl) ?_
  refine q_callV (rest := []) (k_X5_isNode l D cA A hS hB node) hC hG cF5 hS.1 1 gX5_recover_X5_isNode rfl (by decide +kernel) ⟨by decide, by decide⟩ rfl hl.1 rfl (by simp [Value.category]) dX5_recover_2 ⟨Nat.le_of_ble_eq_true rfl, Nat.le_of_ble_eq_true rfl⟩ (fun v Y H locs hq hG => ?_)
  obtain ⟨rfl, rfl⟩ := hq
  have q2 : m_isNode n node ≤ 1 := m_in_le _ _ _
  refine n_ifeq (tgt := 18) hC dX5_recover_5 (by decide) (by omega) (fun c5 => ?_) (fun c5 => ?_)
  · refine lv_bipush (v := -2) hx hb dX5_recover_18 (by decide) ?_
    exact q_iret (v := (-2)) hC hG hr hlk (⟨by simp only [m_recover, if_pos c5, ↓reduceIte], by simp only [m_recover, if_pos c5, ↓reduceIte]⟩) dX5_recover_20
  · refine lv_iload_n hx hb dX5_recover_8 rfl (lv_at hl 2 rfl) ?_
    refine n_iconst hC 0 dX5_recover_9 ?_
    refine lv_ldc (v := nI 1000000) hx hb hC.1.2.2.2.1 (hts (.constant RX5 148 (1000000)) (by decide +kernel)) dX5_recover_10 ?_
    refine q_callS (rest := []) (k_X5_in l D cA A _ nonce (nI 0) (nI 1000000)) hC hG 3 gX5_recover_X5_in rfl (by decide +kernel) ⟨by decide, by decide⟩ rfl hl.1 rfl (by simp [Value.category]) dX5_recover_12 ⟨Nat.le_of_ble_eq_true rfl, Nat.le_of_ble_eq_true rfl⟩ (fun v Y H locs hq hG => ?_)
    obtain ⟨rfl, rfl⟩ := hq
    have q12 := m_in_le nonce (nI 0) (nI 1000000)
    refine n_ifne (tgt := 21) hC dX5_recover_15 (by decide) (by omega) (fun c15 => ?_) (fun c15 => ?_)
    · obtain ⟨i, hi, rfl⟩ := m_isNode_of (n := n) (by omega) (by omega) c5
      obtain ⟨no, hno1, hno2, rfl⟩ := m_in_of (by decide) (by decide) c15
      have t_i : tN (nI i) = i := tN_nI (by omega)
      have t_no : tN (nI no) = no := tN_nI (by omega)
      refine lv_aload_n hx hb dX5_recover_21 rfl (lv_at hl 0 rfl) ?_
      refine q_mg hC hG hS i5 5 rfl k19 dX5_recover_22 ?_
      refine lv_iload_n hx hb dX5_recover_25 rfl (lv_at hl 1 rfl) ?_
      refine q_ml (N := 5) (w := M 5 i) hC hG hS 5 rfl rfl rfl (by omega) rfl dX5_recover_26 ?_
      have b1 : M 5 i < 2147483648 := by have := hB.1 5 i rfl; first | exact this | (simp [up2, m_cp, m_cpk] at this; exact this) | omega
      refine n_iconst hC 3 dX5_recover_27 ?_
      refine n_eq (tgt := 34) hC dX5_recover_28 (by decide) (by omega) (by omega) (fun c28 => ?_) (fun c28 => ?_)
      · refine lv_aload_n hx hb dX5_recover_34 rfl (lv_at hl 0 rfl) ?_
        refine q_mg hC hG hS i5 5 rfl k19 dX5_recover_35 ?_
        refine lv_iload_n hx hb dX5_recover_38 rfl (lv_at hl 1 rfl) ?_
        refine n_iconst hC 2 dX5_recover_39 ?_
        refine q_ms (N := 5) hC hG hS 5 rfl rfl rfl (by omega) dX5_recover_40 (fun H locs hG => ?_)
        have hB := bM_up hB 5 i (v := 2) (by omega)
        refine lv_aload_n hx hb dX5_recover_41 rfl (lv_at hl 0 rfl) ?_
        refine q_mg hC hG hS i5 9 rfl k32 dX5_recover_42 ?_
        refine lv_iload_n hx hb dX5_recover_45 rfl (lv_at hl 1 rfl) ?_
        refine lv_iload_n hx hb dX5_recover_46 rfl (lv_at hl 2 rfl) ?_
        refine q_ms (N := 5) hC hG hS 9 rfl rfl rfl (by omega) dX5_recover_47 (fun H locs hG => ?_)
        have hB := bM_up hB 9 i (v := no) (by omega)
        refine n_iconst hC 0 dX5_recover_48 ?_
        refine lv_istore_n (lv' := [(3, .int (nI 0)), (0, .ref mb), (1, .int (nI i)), (2, .int (nI no))]) hx hb dX5_recover_49 rfl hl (by decide) rfl (fun ls hl => ?_)
        exact loop 6 i no 0 _ _ _ (by omega) hi (by omega) (by omega) (by simp only [m_recover, if_neg c5, if_neg c15, if_pos c28, t_i, t_no, ↓reduceIte]) (by rw [m_tz_0]; exact hG) (lv_sub hl [1, 2, 3, 0] rfl)
      · refine lv_bipush (v := -3) hx hb dX5_recover_31 (by decide) ?_
        exact q_iret (v := (-3)) hC hG hr hlk (⟨by simp only [m_recover, if_neg c5, if_neg c15, if_neg c28, t_i, t_no, ↓reduceIte], by simp only [m_recover, if_neg c5, if_neg c15, if_neg c28, t_i, t_no, ↓reduceIte]⟩) dX5_recover_33
    · refine lv_bipush (v := -2) hx hb dX5_recover_18 (by decide) ?_
      exact q_iret (v := (-2)) hC hG hr hlk (⟨by simp only [m_recover, if_neg c5, if_pos c15, ↓reduceIte], by simp only [m_recover, if_neg c5, if_pos c15, ↓reduceIte]⟩) dX5_recover_20
