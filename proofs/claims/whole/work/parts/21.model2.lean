def m_p5 (M : MM) (i j k v c : Nat) : MM := up2 (up2 (up2 (up2 (up2 M 19 (M 17 0) i) 20 (M 17 0) j) 21 (M 17 0) k) 22 (M 17 0) v) 23 (M 17 0) c
/-- post(i, j, kind, v, count) -/
def m_post (M : MM) (i j k v c : Nat) : MM := if M 17 0 = 240 then up2 M 18 0 (M 18 0 + 1) else if m_hl k = 0 then up2 (m_p5 M i j k v c) 17 0 (M 17 0 + 1) else up2 (m_cp (m_p5 M i j k v c) i (55 + M 17 0)) 17 0 (M 17 0 + 1)
theorem bM_p5 {M : MM} (h : bM M) {i j k v c : Nat} (hi : i < 2147483648) (hj : j < 2147483648) (hk : k < 2147483648) (hv : v < 2147483648) (hc : c < 2147483648) : bM (m_p5 M i j k v c) := bM_up (bM_up (bM_up (bM_up (bM_up h 19 _ hi) 20 _ hj) 21 _ hk) 22 _ hv) 23 _ hc
theorem bM_post {M : MM} (h : bM M) {i j k v c : Nat} (hi : i < 2147483648) (hj : j < 2147483648) (hk : k < 2147483648) (hv : v < 2147483648) (hc : c < 2147483648) : bM (m_post M i j k v c) := by
  have h2 := h.2
  have h5 := bM_p5 h hi hj hk hv hc
  unfold m_post
  split
  · exact bM_upx h 18 0 rfl
  · split
    · exact bM_upl h5 (by omega)
    · exact bM_upl (bM_cp h5 _ _) (by omega)

abbrev rmX5_post : Room := { frames := 1, cells := 0, slots := 0, locals := 23 }
set_option maxHeartbeats 4000000 in
set_option maxRecDepth 100000 in
theorem k_X5_post (l : Launch) (D : va_G) (cA : Nat → ClassId) (A : Nat → Prop) {mb n f : Nat} {X : Mem} {M : MM} (hS : mS mb n f X) (hB : bM M) (i j k v c0 : Nat) (hi : i < n) (hj : j < 2147483648) (hk : k < 2147483648) (hv : v < 2147483648) (hc0 : c0 < 2147483648) : mt l D cA A yX5_post wsX5_post rmX5_post [.ref mb, .int (nI i), .int (nI j), .int (nI k), .int (nI v), .int (nI c0)] (sM mb X M) (fun w Y => w = none ∧ Y = sM mb X (m_post M i j k v c0)) := by
  refine q_start (by decide) rfl (Nat.le_of_ble_eq_true rfl) (fun p e s m args below meth c H locs hC hr hlk hnm hG ls hl => ?_)
  have hl : lv_has ls 6 [(0, .ref mb), (1, .int (nI i)), (2, .int (nI j)), (3, .int (nI k)), (4, .int (nI v)), (5, .int (nI c0))] := hl
  have hx := hC.1.1
  have hb := hC.1.2.1
  have hts := hC.1.2.2.2.2
  have i5 : ∀ w ∈ wsX50, w ∈ wsX5_post := by decide +kernel
  have hnf := hS.2.2.2.2
  have k56 := hts (.fieldLink RX5 56 "ViewStampsModel" "from" "[I") (by decide +kernel)
  have k59 := hts (.fieldLink RX5 59 "ViewStampsModel" "to" "[I") (by decide +kernel)
  have k62 := hts (.fieldLink RX5 62 "ViewStampsModel" "sort" "[I") (by decide +kernel)
  have k65 := hts (.fieldLink RX5 65 "ViewStampsModel" "letterView" "[I") (by decide +kernel)
  have k68 := hts (.fieldLink RX5 68 "ViewStampsModel" "counts" "[I") (by decide +kernel)
  have k88 := hts (.fieldLink RX5 88 "ViewStampsModel" "letters" "I") (by decide +kernel)
  have k91 := hts (.fieldLink RX5 91 "ViewStampsModel" "lost" "I") (by decide +kernel)
  refine lv_aload_n hx hb dX5_post_0 rfl (lv_at hl 0 rfl) ?_
  refine q_mi (w := M 17 0) hC hG hS i5 17 (by decide) rfl k88 dX5_post_1 ?_
  have b1 : M 17 0 ≤ 240 := by have := hB.2; first | exact this | (simp [up2, m_cp, m_cpk] at this; exact this) | omega
  refine n_sipush hC 240 (by decide +kernel) dX5_post_4 ?_
  refine n_ne (tgt := 21) hC dX5_post_7 (by decide) (by omega) (by omega) (fun c7 => ?_) (fun c7 => ?_)
  · refine lv_aload_n hx hb dX5_post_21 rfl (lv_at hl 0 rfl) ?_
    refine q_mg hC hG hS i5 19 rfl k56 dX5_post_22 ?_
    refine lv_aload_n hx hb dX5_post_25 rfl (lv_at hl 0 rfl) ?_
    refine q_mi (w := M 17 0) hC hG hS i5 17 (by decide) rfl k88 dX5_post_26 ?_
    have b2 : M 17 0 ≤ 240 := by have := hB.2; first | exact this | (simp [up2, m_cp, m_cpk] at this; exact this) | omega
    refine lv_iload_n hx hb dX5_post_29 rfl (lv_at hl 1 rfl) ?_
    refine q_ms (N := 240) hC hG hS 19 rfl rfl rfl (by omega) dX5_post_30 (fun H locs hG => ?_)
    have hB := bM_up hB 19 (M 17 0) (v := i) (by omega)
    refine lv_aload_n hx hb dX5_post_31 rfl (lv_at hl 0 rfl) ?_
    refine q_mg hC hG hS i5 20 rfl k59 dX5_post_32 ?_
    refine lv_aload_n hx hb dX5_post_35 rfl (lv_at hl 0 rfl) ?_
    refine q_mi (w := M 17 0) hC hG hS i5 17 (by decide) (by simp [up2, m_cp, m_cpk]) k88 dX5_post_36 ?_
    have b3 : M 17 0 ≤ 240 := by have := hB.2; first | exact this | (simp [up2, m_cp, m_cpk] at this; exact this) | omega
    refine lv_iload_n hx hb dX5_post_39 rfl (lv_at hl 2 rfl) ?_
    refine q_ms (N := 240) hC hG hS 20 rfl rfl rfl (by omega) dX5_post_40 (fun H locs hG => ?_)
    have hB := bM_up hB 20 (M 17 0) (v := j) (by omega)
    refine lv_aload_n hx hb dX5_post_41 rfl (lv_at hl 0 rfl) ?_
    refine q_mg hC hG hS i5 21 rfl k62 dX5_post_42 ?_
    refine lv_aload_n hx hb dX5_post_45 rfl (lv_at hl 0 rfl) ?_
    refine q_mi (w := M 17 0) hC hG hS i5 17 (by decide) (by simp [up2, m_cp, m_cpk]) k88 dX5_post_46 ?_
    have b4 : M 17 0 ≤ 240 := by have := hB.2; first | exact this | (simp [up2, m_cp, m_cpk] at this; exact this) | omega
    refine lv_iload_n hx hb dX5_post_49 rfl (lv_at hl 3 rfl) ?_
    refine q_ms (N := 240) hC hG hS 21 rfl rfl rfl (by omega) dX5_post_50 (fun H locs hG => ?_)
    have hB := bM_up hB 21 (M 17 0) (v := k) (by omega)
    refine lv_aload_n hx hb dX5_post_51 rfl (lv_at hl 0 rfl) ?_
    refine q_mg hC hG hS i5 22 rfl k65 dX5_post_52 ?_
    refine lv_aload_n hx hb dX5_post_55 rfl (lv_at hl 0 rfl) ?_
    refine q_mi (w := M 17 0) hC hG hS i5 17 (by decide) (by simp [up2, m_cp, m_cpk]) k88 dX5_post_56 ?_
    have b5 : M 17 0 ≤ 240 := by have := hB.2; first | exact this | (simp [up2, m_cp, m_cpk] at this; exact this) | omega
    refine lv_iload hx hb dX5_post_59 (lv_at hl 4 rfl) ?_
    refine q_ms (N := 240) hC hG hS 22 rfl rfl rfl (by omega) dX5_post_61 (fun H locs hG => ?_)
    have hB := bM_up hB 22 (M 17 0) (v := v) (by omega)
    refine lv_aload_n hx hb dX5_post_62 rfl (lv_at hl 0 rfl) ?_
    refine q_mg hC hG hS i5 23 rfl k68 dX5_post_63 ?_
    refine lv_aload_n hx hb dX5_post_66 rfl (lv_at hl 0 rfl) ?_
    refine q_mi (w := M 17 0) hC hG hS i5 17 (by decide) (by simp [up2, m_cp, m_cpk]) k88 dX5_post_67 ?_
    have b6 : M 17 0 ≤ 240 := by have := hB.2; first | exact this | (simp [up2, m_cp, m_cpk] at this; exact this) | omega
    refine lv_iload hx hb dX5_post_70 (lv_at hl 5 rfl) ?_
    refine q_ms (N := 240) hC hG hS 23 rfl rfl rfl (by omega) dX5_post_72 (fun H locs hG => ?_)
    have hB := bM_up hB 23 (M 17 0) (v := c0) (by omega)
    refine lv_iload_n hx hb dX5_post_73 rfl (lv_at hl 3 rfl) ?_
    refine q_callS (rest := []) (k_X5_hasLog l D cA A _ k (by omega)) hC hG 1 gX5_post_X5_hasLog rfl (by decide +kernel) ⟨by decide, by decide⟩ rfl hl.1 rfl (by simp [Value.category]) dX5_post_74 ⟨Nat.le_of_ble_eq_true rfl, Nat.le_of_ble_eq_true rfl⟩ (fun v Y H locs hq hG => ?_)
    obtain ⟨rfl, rfl⟩ := hq
    have q74 := m_hl_le k
    refine n_ifeq (tgt := 92) hC dX5_post_77 (by decide) (by omega) (fun c77 => ?_) (fun c77 => ?_)
    · refine lv_aload_n hx hb dX5_post_92 rfl (lv_at hl 0 rfl) ?_
      refine lv_dup hx hb dX5_post_93 rfl ?_
      refine q_mi (w := M 17 0) hC hG hS i5 17 (by decide) (by simp [up2, m_cp, m_cpk]) k88 dX5_post_94 ?_
      have b7 : M 17 0 ≤ 240 := by have := hB.2; first | exact this | (simp [up2, m_cp, m_cpk] at this; exact this) | omega
      refine n_iconst hC 1 dX5_post_97 ?_
      refine n_iadd hC dX5_post_98 ?_
      refine q_mp hC hG hS i5 17 (by decide) k88 dX5_post_99 (fun H locs hG => ?_)
      have hB := bM_upl hB (v := (M 17 0) + 1) (by omega)
      exact q_vret hC hG hr hlk (⟨rfl, by simp only [m_post, m_p5, c7, c77, ↓reduceIte]⟩) dX5_post_102
    · refine lv_aload_n hx hb dX5_post_80 rfl (lv_at hl 0 rfl) ?_
      refine lv_iload_n hx hb dX5_post_81 rfl (lv_at hl 1 rfl) ?_
      refine n_bipush hC 55 (by decide) dX5_post_82 ?_
      refine lv_aload_n hx hb dX5_post_84 rfl (lv_at hl 0 rfl) ?_
      refine q_mi (w := M 17 0) hC hG hS i5 17 (by decide) (by simp [up2, m_cp, m_cpk]) k88 dX5_post_85 ?_
      have b8 : M 17 0 ≤ 240 := by have := hB.2; first | exact this | (simp [up2, m_cp, m_cpk] at this; exact this) | omega
      refine n_iadd hC dX5_post_88 ?_
      refine q_callV (rest := []) (k_X5_copyLog l D cA A hS hB i (55 + (M 17 0)) (by omega) (by omega)) hC hG cF5 hS.1 2 gX5_post_X5_copyLog rfl (by decide +kernel) ⟨by decide, by decide⟩ rfl hl.1 rfl (by simp [Value.category]) dX5_post_89 ⟨Nat.le_of_ble_eq_true rfl, Nat.le_of_ble_eq_true rfl⟩ (fun v Y H locs hq hG => ?_)
      obtain ⟨rfl, rfl⟩ := hq
      have hB := bM_cp hB i (55 + (M 17 0))
      refine lv_aload_n hx hb dX5_post_92 rfl (lv_at hl 0 rfl) ?_
      refine lv_dup hx hb dX5_post_93 rfl ?_
      refine q_mi (w := M 17 0) hC hG hS i5 17 (by decide) (by simp [up2, m_cp, m_cpk]) k88 dX5_post_94 ?_
      have b9 : M 17 0 ≤ 240 := by have := hB.2; first | exact this | (simp [up2, m_cp, m_cpk] at this; exact this) | omega
      refine n_iconst hC 1 dX5_post_97 ?_
      refine n_iadd hC dX5_post_98 ?_
      refine q_mp hC hG hS i5 17 (by decide) k88 dX5_post_99 (fun H locs hG => ?_)
      have hB := bM_upl hB (v := (M 17 0) + 1) (by omega)
      exact q_vret hC hG hr hlk (⟨rfl, by simp only [m_post, m_p5, c7, c77, ↓reduceIte]⟩) dX5_post_102
  · refine lv_aload_n hx hb dX5_post_10 rfl (lv_at hl 0 rfl) ?_
    refine lv_dup hx hb dX5_post_11 rfl ?_
    refine q_mi (w := M 18 0) hC hG hS i5 18 (by decide) rfl k91 dX5_post_12 ?_
    refine n_iconst hC 1 dX5_post_15 ?_
    refine n_iadd hC dX5_post_16 ?_
    refine q_mp hC hG hS i5 18 (by decide) k91 dX5_post_17 (fun H locs hG => ?_)
    have hB := bM_upx hB 18 0 (v := (M 18 0) + 1) rfl
    exact q_vret hC hG hr hlk (⟨rfl, by simp only [m_post, m_p5, c7, ↓reduceIte]⟩) dX5_post_20

/-- postAll: to the nodes below the last number -/
def m_pa (M : MM) (i k v c : Nat) : Nat → MM
  | 0 => M
  | j + 1 => if j = i then m_pa M i k v c j else m_post (m_pa M i k v c j) i j k v c
theorem bM_pa {M : MM} (h : bM M) {i k v c : Nat} (hi : i < 2147483648) (hk : k < 2147483648) (hv : v < 2147483648) (hc : c < 2147483648) : ∀ j, j < 2147483648 → bM (m_pa M i k v c j) := by
  intro j
  induction j with
  | zero => intro _; exact h
  | succ j ih =>
    intro hj
    unfold m_pa
    split
    · exact ih (by omega)
    · exact bM_post (ih (by omega)) hi (by omega) hk hv hc

abbrev rmX5_postAll : Room := { frames := 2, cells := 0, slots := 0, locals := 48 }
set_option maxHeartbeats 4000000 in
set_option maxRecDepth 100000 in
theorem k_X5_postAll (l : Launch) (D : va_G) (cA : Nat → ClassId) (A : Nat → Prop) {mb n f : Nat} {X : Mem} {M : MM} (hS : mS mb n f X) (hB : bM M) (i k v c0 : Nat) (hi : i < n) (hk : k < 2147483648) (hv : v < 2147483648) (hc0 : c0 < 2147483648) : mt l D cA A yX5_postAll wsX5_postAll rmX5_postAll [.ref mb, .int (nI i), .int (nI k), .int (nI v), .int (nI c0)] (sM mb X M) (fun w Y => w = some (.int (nI (n - 1))) ∧ Y = sM mb X (m_pa M i k v c0 n)) := by
  refine q_start (by decide) rfl (Nat.le_of_ble_eq_true rfl) (fun p e s m args below meth c H locs hC hr hlk hnm hG ls hl => ?_)
  have hl : lv_has ls 6 [(0, .ref mb), (1, .int (nI i)), (2, .int (nI k)), (3, .int (nI v)), (4, .int (nI c0))] := hl
  have hx := hC.1.1
  have hb := hC.1.2.1
  have hts := hC.1.2.2.2.2
  have i5 : ∀ w ∈ wsX50, w ∈ wsX5_postAll := by decide +kernel
  have hnf := hS.2.2.2.2
  have k77 := hts (.fieldLink RX5 77 "ViewStampsModel" "n" "I") (by decide +kernel)
  have loop : ∀ (d : Nat) (j : Nat) (H : Heap) (locs : List Loc) (ls : Array Slot), n - j < d → j ≤ n → bM (m_pa M i k v c0 j) → gw D cA A (sM mb X (m_pa M i k v c0 j)) s.heap H locs → lv_has ls 6 [(0, .ref mb), (1, .int (nI i)), (2, .int (nI k)), (3, .int (nI v)), (4, .int (nI c0)), (5, .int (nI j))] → W p l e rmX5_postAll s m args below meth c H locs 0 0 (MQ below (mQ D cA A (fun w Y => w = some (.int (nI (n - 1))) ∧ Y = sM mb X (m_pa M i k v c0 n))) args s rmX5_postAll.cells rmX5_postAll.slots A) (F0 m 3 ls []) := by
    intro d
    induction d with
    | zero => intro j H locs ls hd; exact absurd hd (Nat.not_lt_zero _)
    | succ d ih =>
      intro j H locs ls hd hj hB hG hl
      refine lv_iload hx hb dX5_postAll_3 (lv_at hl 5 rfl) ?_
      refine lv_aload_n hx hb dX5_postAll_5 rfl (lv_at hl 0 rfl) ?_
      refine q_mn hC hG hS i5 k77 dX5_postAll_6 ?_
      refine n_ge (tgt := 35) hC dX5_postAll_9 (by decide) (by omega) (by omega) (fun c9 => ?_) (fun c9 => ?_)
      · have c9n := Nat.not_lt.mpr c9
        refine lv_aload_n hx hb dX5_postAll_35 rfl (lv_at hl 0 rfl) ?_
        refine q_mn hC hG hS i5 k77 dX5_postAll_36 ?_
        refine n_iconst hC 1 dX5_postAll_39 ?_
        refine n_isub hC (by omega) dX5_postAll_40 ?_
        exact q_iret (v := (nI (n - 1))) hC hG hr hlk (⟨rfl, by rw [show j = n by omega]⟩) dX5_postAll_41
      · have c9n := Nat.not_le.mpr c9
        refine lv_iload hx hb dX5_postAll_12 (lv_at hl 5 rfl) ?_
        refine lv_iload_n hx hb dX5_postAll_14 rfl (lv_at hl 1 rfl) ?_
        refine n_eq (tgt := 29) hC dX5_postAll_15 (by decide) (by omega) (by omega) (fun c15 => ?_) (fun c15 => ?_)
        · refine n_iinc (n := 1) (k := 5) (lv' := [(5, .int (nI (j + 1))), (0, .ref mb), (1, .int (nI i)), (2, .int (nI k)), (3, .int (nI v)), (4, .int (nI c0))]) hC dX5_postAll_29 hl rfl (by decide) rfl (fun ls hl => ?_)
          refine lv_goto (tgt := 3) hx hb dX5_postAll_32 (by decide) ?_
          have e9 : m_pa M i k v c0 (j + 1) = m_pa M i k v c0 j := by simp only [m_pa, c15, ↓reduceIte]
          exact ih (j + 1) _ _ _ (by omega) (by omega) (by rw [e9]; exact hB) (by rw [e9]; exact hG) (lv_sub hl [1, 2, 3, 4, 5, 0] rfl)
        · refine lv_aload_n hx hb dX5_postAll_18 rfl (lv_at hl 0 rfl) ?_
          refine lv_iload_n hx hb dX5_postAll_19 rfl (lv_at hl 1 rfl) ?_
          refine lv_iload hx hb dX5_postAll_20 (lv_at hl 5 rfl) ?_
          refine lv_iload_n hx hb dX5_postAll_22 rfl (lv_at hl 2 rfl) ?_
          refine lv_iload_n hx hb dX5_postAll_23 rfl (lv_at hl 3 rfl) ?_
          refine lv_iload hx hb dX5_postAll_24 (lv_at hl 4 rfl) ?_
          refine q_callV (rest := []) (k_X5_post l D cA A hS hB i j k v c0 (by omega) (by omega) (by omega) (by omega) (by omega)) hC hG cF5 hS.1 5 gX5_postAll_X5_post rfl (by decide +kernel) ⟨by decide, by decide⟩ rfl hl.1 rfl (by simp [Value.category]) dX5_postAll_26 ⟨Nat.le_of_ble_eq_true rfl, Nat.le_of_ble_eq_true rfl⟩ (fun v Y H locs hq hG => ?_)
          obtain ⟨rfl, rfl⟩ := hq
          have hB := bM_post (i := i) (j := j) (k := k) (v := v) (c := c0) hB (by omega) (by omega) (by omega) (by omega) (by omega)
          refine n_iinc (n := 1) (k := 5) (lv' := [(5, .int (nI (j + 1))), (0, .ref mb), (1, .int (nI i)), (2, .int (nI k)), (3, .int (nI v)), (4, .int (nI c0))]) hC dX5_postAll_29 hl rfl (by decide) rfl (fun ls hl => ?_)
          refine lv_goto (tgt := 3) hx hb dX5_postAll_32 (by decide) ?_
          have e9 : m_pa M i k v c0 (j + 1) = m_post (m_pa M i k v c0 j) i j k v c0 := by simp only [m_pa, c15, ↓reduceIte]
          exact ih (j + 1) _ _ _ (by omega) (by omega) (by rw [e9]; exact hB) (by rw [e9]; exact hG) (lv_sub hl [1, 2, 3, 4, 5, 0] rfl)
  refine n_iconst hC 0 dX5_postAll_0 ?_
  refine lv_istore (lv' := [(5, .int (nI 0)), (0, .ref mb), (1, .int (nI i)), (2, .int (nI k)), (3, .int (nI v)), (4, .int (nI c0))]) hx hb dX5_postAll_1 hl (by decide) rfl (fun ls hl => ?_)
  exact loop (n + 1) 0 _ _ _ (by omega) (by omega) hB hG (lv_sub hl [1, 2, 3, 4, 5, 0] rfl)

def m_pok (n : Nat) (M : MM) (i : Nat) : MM := m_post M i (M 6 i % n) 2 (M 6 i) (M 3 i)
theorem bM_pok {n : Nat} {M : MM} (h : bM M) {i : Nat} (hi : i < 2147483648) (hn : 0 < n) : bM (m_pok n M i) := by
  have h6 := h.1 6 i rfl
  exact bM_post h hi (Nat.lt_of_le_of_lt (Nat.mod_le _ _) h6) (by decide) h6 (h.1 3 i rfl)

abbrev rmX5_postOk : Room := { frames := 2, cells := 0, slots := 0, locals := 48 }
set_option maxHeartbeats 4000000 in
set_option maxRecDepth 100000 in
theorem k_X5_postOk (l : Launch) (D : va_G) (cA : Nat → ClassId) (A : Nat → Prop) {mb n f : Nat} {X : Mem} {M : MM} (hS : mS mb n f X) (hB : bM M) (i : Nat) (hi : i < n) : mt l D cA A yX5_postOk wsX5_postOk rmX5_postOk [.ref mb, .int (nI i)] (sM mb X M) (fun w Y => w = none ∧ Y = sM mb X (m_pok n M i)) := by
  refine q_start (by decide) rfl (Nat.le_of_ble_eq_true rfl) (fun p e s m args below meth c H locs hC hr hlk hnm hG ls hl => ?_)
  have hl : lv_has ls 2 [(0, .ref mb), (1, .int (nI i))] := hl
  have hx := hC.1.1
  have hb := hC.1.2.1
  have hts := hC.1.2.2.2.2
  have i5 : ∀ w ∈ wsX50, w ∈ wsX5_postOk := by decide +kernel
  have hnf := hS.2.2.2.2
  have k13 := hts (.fieldLink RX5 13 "ViewStampsModel" "many" "[I") (by decide +kernel)
  have k22 := hts (.fieldLink RX5 22 "ViewStampsModel" "view" "[I") (by decide +kernel)
  have k77 := hts (.fieldLink RX5 77 "ViewStampsModel" "n" "I") (by decide +kernel)
  refine lv_aload_n hx hb dX5_postOk_0 rfl (lv_at hl 0 rfl) ?_
  refine lv_iload_n hx hb dX5_postOk_1 rfl (lv_at hl 1 rfl) ?_
  refine lv_aload_n hx hb dX5_postOk_2 rfl (lv_at hl 0 rfl) ?_
  refine q_mg hC hG hS i5 6 rfl k22 dX5_postOk_3 ?_
  refine lv_iload_n hx hb dX5_postOk_6 rfl (lv_at hl 1 rfl) ?_
  refine q_ml (N := 5) (w := M 6 i) hC hG hS 6 rfl rfl rfl (by omega) rfl dX5_postOk_7 ?_
  have b1 : M 6 i < 2147483648 := by have := hB.1 6 i rfl; first | exact this | (simp [up2, m_cp, m_cpk] at this; exact this) | omega
  refine lv_aload_n hx hb dX5_postOk_8 rfl (lv_at hl 0 rfl) ?_
  refine q_mn hC hG hS i5 k77 dX5_postOk_9 ?_
  refine n_irem hC (by omega) (by omega) (by omega) dX5_postOk_12 ?_
  have r12 : (M 6 i) % n < n := Nat.mod_lt _ (by omega)
  refine n_iconst hC 2 dX5_postOk_13 ?_
  refine lv_aload_n hx hb dX5_postOk_14 rfl (lv_at hl 0 rfl) ?_
  refine q_mg hC hG hS i5 6 rfl k22 dX5_postOk_15 ?_
  refine lv_iload_n hx hb dX5_postOk_18 rfl (lv_at hl 1 rfl) ?_
  refine q_ml (N := 5) (w := M 6 i) hC hG hS 6 rfl rfl rfl (by omega) rfl dX5_postOk_19 ?_
  have b2 : M 6 i < 2147483648 := by have := hB.1 6 i rfl; first | exact this | (simp [up2, m_cp, m_cpk] at this; exact this) | omega
  refine lv_aload_n hx hb dX5_postOk_20 rfl (lv_at hl 0 rfl) ?_
  refine q_mg hC hG hS i5 3 rfl k13 dX5_postOk_21 ?_
  refine lv_iload_n hx hb dX5_postOk_24 rfl (lv_at hl 1 rfl) ?_
  refine q_ml (N := 295) (w := M 3 i) hC hG hS 3 rfl rfl rfl (by omega) rfl dX5_postOk_25 ?_
  have b3 : M 3 i < 2147483648 := by have := hB.1 3 i rfl; first | exact this | (simp [up2, m_cp, m_cpk] at this; exact this) | omega
  refine q_callV (rest := []) (k_X5_post l D cA A hS hB i ((M 6 i) % n) 2 (M 6 i) (M 3 i) (by omega) (by omega) (by omega) (by omega) (by omega)) hC hG cF5 hS.1 5 gX5_postOk_X5_post rfl (by decide +kernel) ⟨by decide, by decide⟩ rfl hl.1 rfl (by simp [Value.category]) dX5_postOk_26 ⟨Nat.le_of_ble_eq_true rfl, Nat.le_of_ble_eq_true rfl⟩ (fun v Y H locs hq hG => ?_)
  obtain ⟨rfl, rfl⟩ := hq
  have hB := bM_post (i := i) (j := (M 6 i) % n) (k := 2) (v := M 6 i) (c := M 3 i) hB (by omega) (by omega) (by omega) (by omega) (by omega)
  exact q_vret hC hG hr hlk (⟨rfl, rfl⟩) dX5_postOk_29

def m_hav (n : Nat) (M : MM) (i g v : Nat) : MM := m_pok n (up2 (up2 (up2 (up2 (m_cp M g i) 4 i (m_les (m_gre (M 4 i) (m_cp M g i 4 g)) (M 3 g))) 6 i v) 7 i v) 5 i 0) i
theorem bM_hav {n : Nat} {M : MM} (h : bM M) {i g v : Nat} (hi : i < 2147483648) (hn : 0 < n) (hv : v < 2147483648) : bM (m_hav n M i g v) :=
  bM_pok (bM_up (bM_up (bM_up (bM_up (bM_cp h g i) 4 i (Nat.lt_of_le_of_lt (m_les_le _ _).2 (h.1 3 g rfl))) 6 i hv) 7 i hv) 5 i (by decide)) hi hn

abbrev rmX5_havingAs : Room := { frames := 3, cells := 0, slots := 0, locals := 69 }
set_option maxHeartbeats 4000000 in
set_option maxRecDepth 100000 in
theorem k_X5_havingAs (l : Launch) (D : va_G) (cA : Nat → ClassId) (A : Nat → Prop) {mb n f : Nat} {X : Mem} {M : MM} (hS : mS mb n f X) (hB : bM M) (i g v : Nat) (hi : i < n) (hg : g < 295) (hv : v < 2147483648) : mt l D cA A yX5_havingAs wsX5_havingAs rmX5_havingAs [.ref mb, .int (nI i), .int (nI g), .int (nI v)] (sM mb X M) (fun w Y => w = none ∧ Y = sM mb X (m_hav n M i g v)) := by
  refine q_start (by decide) rfl (Nat.le_of_ble_eq_true rfl) (fun p e s m args below meth c H locs hC hr hlk hnm hG ls hl => ?_)
  have hl : lv_has ls 5 [(0, .ref mb), (1, .int (nI i)), (2, .int (nI g)), (3, .int (nI v))] := hl
  have hx := hC.1.1
  have hb := hC.1.2.1
  have hts := hC.1.2.2.2.2
  have i5 : ∀ w ∈ wsX50, w ∈ wsX5_havingAs := by decide +kernel
  have hnf := hS.2.2.2.2
  have k13 := hts (.fieldLink RX5 13 "ViewStampsModel" "many" "[I") (by decide +kernel)
  have k16 := hts (.fieldLink RX5 16 "ViewStampsModel" "sure" "[I") (by decide +kernel)
  have k19 := hts (.fieldLink RX5 19 "ViewStampsModel" "status" "[I") (by decide +kernel)
  have k22 := hts (.fieldLink RX5 22 "ViewStampsModel" "view" "[I") (by decide +kernel)
  have k25 := hts (.fieldLink RX5 25 "ViewStampsModel" "lastView" "[I") (by decide +kernel)
  refine lv_aload_n hx hb dX5_havingAs_0 rfl (lv_at hl 0 rfl) ?_
  refine q_mg hC hG hS i5 4 rfl k16 dX5_havingAs_1 ?_
  refine lv_iload_n hx hb dX5_havingAs_4 rfl (lv_at hl 1 rfl) ?_
  refine q_ml (N := 295) (w := M 4 i) hC hG hS 4 rfl rfl rfl (by omega) rfl dX5_havingAs_5 ?_
  have b1 : M 4 i < 2147483648 := by have := hB.1 4 i rfl; first | exact this | (simp [up2, m_cp, m_cpk] at this; exact this) | omega
  refine lv_istore (lv' := [(4, .int (nI (M 4 i))), (0, .ref mb), (1, .int (nI i)), (2, .int (nI g)), (3, .int (nI v))]) hx hb dX5_havingAs_6 hl (by decide) rfl (fun ls hl => ?_)
  refine lv_aload_n hx hb dX5_havingAs_8 rfl (lv_at hl 1 rfl) ?_
  refine lv_iload_n hx hb dX5_havingAs_9 rfl (lv_at hl 3 rfl) ?_
  refine lv_iload_n hx hb dX5_havingAs_10 rfl (lv_at hl 2 rfl) ?_
  refine q_callV (rest := []) (k_X5_copyLog l D cA A hS hB g i (by omega) (by omega)) hC hG cF5 hS.1 2 gX5_havingAs_X5_copyLog rfl (by decide +kernel) ⟨by decide, by decide⟩ rfl hl.1 rfl (by simp [Value.category]) dX5_havingAs_11 ⟨Nat.le_of_ble_eq_true rfl, Nat.le_of_ble_eq_true rfl⟩ (fun v Y H locs hq hG => ?_)
  obtain ⟨rfl, rfl⟩ := hq
  have hB := bM_cp hB g i
  refine lv_aload_n hx hb dX5_havingAs_14 rfl (lv_at hl 1 rfl) ?_
  refine q_mg hC hG hS i5 4 rfl k16 dX5_havingAs_15 ?_
  refine lv_iload_n hx hb dX5_havingAs_18 rfl (lv_at hl 2 rfl) ?_
  refine lv_iload hx hb dX5_havingAs_19 (lv_at hl 0 rfl) ?_
  refine lv_aload_n hx hb dX5_havingAs_21 rfl (lv_at hl 1 rfl) ?_
  refine q_mg hC hG hS i5 4 rfl k16 dX5_havingAs_22 ?_
  refine lv_iload_n hx hb dX5_havingAs_25 rfl (lv_at hl 3 rfl) ?_
  refine q_ml (N := 295) (w := (m_cp M g i) 4 g) hC hG hS 4 rfl rfl rfl (by omega) rfl dX5_havingAs_26 ?_
  have b2 : (m_cp M g i) 4 g < 2147483648 := by have := hB.1 4 g rfl; first | exact this | (simp [up2, m_cp, m_cpk] at this; exact this) | omega
  refine q_callS (rest := [.int (nI i), .ref (mb + ao 4)]) (k_X5_greater l D cA A _ (M 4 i) ((m_cp M g i) 4 g) (by omega) (by omega)) hC hG 2 gX5_havingAs_X5_greater rfl (by decide +kernel) ⟨by decide, by decide⟩ rfl hl.1 rfl (by simp [Value.category]) dX5_havingAs_27 ⟨Nat.le_of_ble_eq_true rfl, Nat.le_of_ble_eq_true rfl⟩ (fun v Y H locs hq hG => ?_)
  obtain ⟨rfl, rfl⟩ := hq
  have q27 : m_gre (M 4 i) ((m_cp M g i) 4 g) < 2147483648 := m_gre_le (by omega) (by omega)
  refine lv_aload_n hx hb dX5_havingAs_30 rfl (lv_at hl 1 rfl) ?_
  refine q_mg hC hG hS i5 3 rfl k13 dX5_havingAs_31 ?_
  refine lv_iload_n hx hb dX5_havingAs_34 rfl (lv_at hl 2 rfl) ?_
  refine q_ml (N := 295) (w := M 3 g) hC hG hS 3 rfl rfl rfl (by omega) (by simp [up2, m_cp, m_cpk]) dX5_havingAs_35 ?_
  have b3 : M 3 g < 2147483648 := by have := hB.1 3 i rfl; first | exact this | (simp [up2, m_cp, m_cpk] at this; exact this) | omega
  refine q_callS (rest := [.int (nI i), .ref (mb + ao 4)]) (k_X5_lesser l D cA A _ (m_gre (M 4 i) ((m_cp M g i) 4 g)) (M 3 g) (by omega) (by omega)) hC hG 2 gX5_havingAs_X5_lesser rfl (by decide +kernel) ⟨by decide, by decide⟩ rfl hl.1 rfl (by simp [Value.category]) dX5_havingAs_36 ⟨Nat.le_of_ble_eq_true rfl, Nat.le_of_ble_eq_true rfl⟩ (fun v Y H locs hq hG => ?_)
  obtain ⟨rfl, rfl⟩ := hq
  have q36 := m_les_le (m_gre (M 4 i) ((m_cp M g i) 4 g)) (M 3 g)
  refine q_ms (N := 295) hC hG hS 4 rfl rfl rfl (by omega) dX5_havingAs_39 (fun H locs hG => ?_)
  have hB := bM_up hB 4 i (v := m_les (m_gre (M 4 i) ((m_cp M g i) 4 g)) (M 3 g)) (by omega)
  refine lv_aload_n hx hb dX5_havingAs_40 rfl (lv_at hl 1 rfl) ?_
  refine q_mg hC hG hS i5 6 rfl k22 dX5_havingAs_41 ?_
  refine lv_iload_n hx hb dX5_havingAs_44 rfl (lv_at hl 2 rfl) ?_
  refine lv_iload_n hx hb dX5_havingAs_45 rfl (lv_at hl 4 rfl) ?_
  refine q_ms (N := 5) hC hG hS 6 rfl rfl rfl (by omega) dX5_havingAs_46 (fun H locs hG => ?_)
  have hB := bM_up hB 6 i (v := v) (by omega)
  refine lv_aload_n hx hb dX5_havingAs_47 rfl (lv_at hl 1 rfl) ?_
  refine q_mg hC hG hS i5 7 rfl k25 dX5_havingAs_48 ?_
  refine lv_iload_n hx hb dX5_havingAs_51 rfl (lv_at hl 2 rfl) ?_
  refine lv_iload_n hx hb dX5_havingAs_52 rfl (lv_at hl 4 rfl) ?_
  refine q_ms (N := 5) hC hG hS 7 rfl rfl rfl (by omega) dX5_havingAs_53 (fun H locs hG => ?_)
  have hB := bM_up hB 7 i (v := v) (by omega)
  refine lv_aload_n hx hb dX5_havingAs_54 rfl (lv_at hl 1 rfl) ?_
  refine q_mg hC hG hS i5 5 rfl k19 dX5_havingAs_55 ?_
  refine lv_iload_n hx hb dX5_havingAs_58 rfl (lv_at hl 2 rfl) ?_
  refine n_iconst hC 0 dX5_havingAs_59 ?_
  refine q_ms (N := 5) hC hG hS 5 rfl rfl rfl (by omega) dX5_havingAs_60 (fun H locs hG => ?_)
  have hB := bM_up hB 5 i (v := 0) (by omega)
  refine lv_aload_n hx hb dX5_havingAs_61 rfl (lv_at hl 1 rfl) ?_
  refine lv_iload_n hx hb dX5_havingAs_62 rfl (lv_at hl 2 rfl) ?_
  refine q_callV (rest := []) (k_X5_postOk l D cA A hS hB i (by omega)) hC hG cF5 hS.1 1 gX5_havingAs_X5_postOk rfl (by decide +kernel) ⟨by decide, by decide⟩ rfl hl.1 rfl (by simp [Value.category]) dX5_havingAs_63 ⟨Nat.le_of_ble_eq_true rfl, Nat.le_of_ble_eq_true rfl⟩ (fun v Y H locs hq hG => ?_)
  obtain ⟨rfl, rfl⟩ := hq
  have hB := bM_pok (n := n) (i := i) hB (by omega) (by omega)
  exact q_vret hC hG hr hlk (⟨rfl, rfl⟩) dX5_havingAs_66

/-- prepares: the answer, the memory -/
def m_pre (n : Nat) (M : MM) (i g v : Nat) : Nat × MM :=
  if M 6 i < v then (1, m_hav n M i g v) else if M 5 i = 1 then (1, m_hav n M i g v) else if m_fst n M i = 0 then
    (if M 3 i < M 3 g then (1, m_pok n (up2 (m_cp M g i) 4 i (m_les (m_gre (M 4 i) (M 4 g)) (M 3 g))) i) else (1, m_pok n (up2 M 4 i (m_les (m_gre (M 4 i) (M 4 g)) (M 3 i))) i))
  else (0, M)

abbrev rmX5_prepares : Room := { frames := 4, cells := 0, slots := 0, locals := 93 }
set_option maxHeartbeats 4000000 in
set_option maxRecDepth 100000 in
theorem k_X5_prepares (l : Launch) (D : va_G) (cA : Nat → ClassId) (A : Nat → Prop) {mb n f : Nat} {X : Mem} {M : MM} (hS : mS mb n f X) (hB : bM M) (i g v : Nat) (hi : i < n) (hg : g < 295) (hv : v < 2147483648) : mt l D cA A yX5_prepares wsX5_prepares rmX5_prepares [.ref mb, .int (nI i), .int (nI g), .int (nI v)] (sM mb X M) (fun w Y => w = some (.int (nI (m_pre n M i g v).1)) ∧ Y = sM mb X (m_pre n M i g v).2) := by
  refine q_start (by decide) rfl (Nat.le_of_ble_eq_true rfl) (fun p e s m args below meth c H locs hC hr hlk hnm hG ls hl => ?_)
  have hl : lv_has ls 6 [(0, .ref mb), (1, .int (nI i)), (2, .int (nI g)), (3, .int (nI v))] := hl
  have hx := hC.1.1
  have hb := hC.1.2.1
  have hts := hC.1.2.2.2.2
  have i5 : ∀ w ∈ wsX50, w ∈ wsX5_prepares := by decide +kernel
  have hnf := hS.2.2.2.2
  have k13 := hts (.fieldLink RX5 13 "ViewStampsModel" "many" "[I") (by decide +kernel)
  have k16 := hts (.fieldLink RX5 16 "ViewStampsModel" "sure" "[I") (by decide +kernel)
  have k19 := hts (.fieldLink RX5 19 "ViewStampsModel" "status" "[I") (by decide +kernel)
  have k22 := hts (.fieldLink RX5 22 "ViewStampsModel" "view" "[I") (by decide +kernel)
  refine lv_aload_n hx hb dX5_prepares_0 rfl (lv_at hl 0 rfl) ?_
  refine q_mg hC hG hS i5 6 rfl k22 dX5_prepares_1 ?_
  refine lv_iload_n hx hb dX5_prepares_4 rfl (lv_at hl 1 rfl) ?_
  refine q_ml (N := 5) (w := M 6 i) hC hG hS 6 rfl rfl rfl (by omega) rfl dX5_prepares_5 ?_
  have b1 : M 6 i < 2147483648 := by have := hB.1 6 i rfl; first | exact this | (simp [up2, m_cp, m_cpk] at this; exact this) | omega
  refine lv_iload_n hx hb dX5_prepares_6 rfl (lv_at hl 3 rfl) ?_
  refine n_lt (tgt := 20) hC dX5_prepares_7 (by decide) (by omega) (by omega) (fun c7 => ?_) (fun c7 => ?_)
  · have c7n := Nat.not_le.mpr c7
    refine lv_aload_n hx hb dX5_prepares_20 rfl (lv_at hl 0 rfl) ?_
    refine lv_iload_n hx hb dX5_prepares_21 rfl (lv_at hl 1 rfl) ?_
    refine lv_iload_n hx hb dX5_prepares_22 rfl (lv_at hl 2 rfl) ?_
    refine lv_iload_n hx hb dX5_prepares_23 rfl (lv_at hl 3 rfl) ?_
    refine q_callV (rest := []) (k_X5_havingAs l D cA A hS hB i g v (by omega) (by omega) (by omega)) hC hG cF5 hS.1 3 gX5_prepares_X5_havingAs rfl (by decide +kernel) ⟨by decide, by decide⟩ rfl hl.1 rfl (by simp [Value.category]) dX5_prepares_24 ⟨Nat.le_of_ble_eq_true rfl, Nat.le_of_ble_eq_true rfl⟩ (fun v Y H locs hq hG => ?_)
    obtain ⟨rfl, rfl⟩ := hq
    have hB := bM_hav (n := n) (i := i) (g := g) (v := v) hB (by omega) (by omega) (by omega)
    refine n_iconst hC 1 dX5_prepares_27 ?_
    exact q_zret (v := 1) hC hG hr hlk (by first | decide | omega) (⟨by simp only [m_pre, c7, c7n, ↓reduceIte], by simp only [m_pre, c7, c7n, ↓reduceIte]⟩) dX5_prepares_28
  · have c7n := Nat.not_lt.mpr c7
    refine lv_aload_n hx hb dX5_prepares_10 rfl (lv_at hl 0 rfl) ?_
    refine q_mg hC hG hS i5 5 rfl k19 dX5_prepares_11 ?_
    refine lv_iload_n hx hb dX5_prepares_14 rfl (lv_at hl 1 rfl) ?_
    refine q_ml (N := 5) (w := M 5 i) hC hG hS 5 rfl rfl rfl (by omega) rfl dX5_prepares_15 ?_
    have b2 : M 5 i < 2147483648 := by have := hB.1 5 i rfl; first | exact this | (simp [up2, m_cp, m_cpk] at this; exact this) | omega
    refine n_iconst hC 1 dX5_prepares_16 ?_
    refine n_ne (tgt := 29) hC dX5_prepares_17 (by decide) (by omega) (by omega) (fun c17 => ?_) (fun c17 => ?_)
    · refine lv_aload_n hx hb dX5_prepares_29 rfl (lv_at hl 0 rfl) ?_
      refine lv_iload_n hx hb dX5_prepares_30 rfl (lv_at hl 1 rfl) ?_
      refine q_callV (rest := []) (k_X5_isFirst l D cA A hS hB i (by omega)) hC hG cF5 hS.1 1 gX5_prepares_X5_isFirst rfl (by decide +kernel) ⟨by decide, by decide⟩ rfl hl.1 rfl (by simp [Value.category]) dX5_prepares_31 ⟨Nat.le_of_ble_eq_true rfl, Nat.le_of_ble_eq_true rfl⟩ (fun v Y H locs hq hG => ?_)
      obtain ⟨rfl, rfl⟩ := hq
      have q31 := m_fst_le n M i
      refine n_ifeq (tgt := 39) hC dX5_prepares_34 (by decide) (by omega) (fun c34 => ?_) (fun c34 => ?_)
      · refine lv_aload_n hx hb dX5_prepares_39 rfl (lv_at hl 0 rfl) ?_
        refine q_mg hC hG hS i5 4 rfl k16 dX5_prepares_40 ?_
        refine lv_iload_n hx hb dX5_prepares_43 rfl (lv_at hl 1 rfl) ?_
        refine q_ml (N := 295) (w := M 4 i) hC hG hS 4 rfl rfl rfl (by omega) rfl dX5_prepares_44 ?_
        have b3 : M 4 i < 2147483648 := by have := hB.1 4 i rfl; first | exact this | (simp [up2, m_cp, m_cpk] at this; exact this) | omega
        refine lv_istore (lv' := [(4, .int (nI (M 4 i))), (0, .ref mb), (1, .int (nI i)), (2, .int (nI g)), (3, .int (nI v))]) hx hb dX5_prepares_45 hl (by decide) rfl (fun ls hl => ?_)
        refine lv_aload_n hx hb dX5_prepares_47 rfl (lv_at hl 1 rfl) ?_
        refine q_mg hC hG hS i5 4 rfl k16 dX5_prepares_48 ?_
        refine lv_iload_n hx hb dX5_prepares_51 rfl (lv_at hl 3 rfl) ?_
        refine q_ml (N := 295) (w := M 4 g) hC hG hS 4 rfl rfl rfl (by omega) rfl dX5_prepares_52 ?_
        have b4 : M 4 g < 2147483648 := by have := hB.1 4 g rfl; first | exact this | (simp [up2, m_cp, m_cpk] at this; exact this) | omega
        refine lv_istore (lv' := [(5, .int (nI (M 4 g))), (4, .int (nI (M 4 i))), (0, .ref mb), (1, .int (nI i)), (2, .int (nI g)), (3, .int (nI v))]) hx hb dX5_prepares_53 hl (by decide) rfl (fun ls hl => ?_)
        refine lv_aload_n hx hb dX5_prepares_55 rfl (lv_at hl 2 rfl) ?_
        refine q_mg hC hG hS i5 3 rfl k13 dX5_prepares_56 ?_
        refine lv_iload_n hx hb dX5_prepares_59 rfl (lv_at hl 4 rfl) ?_
        refine q_ml (N := 295) (w := M 3 g) hC hG hS 3 rfl rfl rfl (by omega) rfl dX5_prepares_60 ?_
        have b5 : M 3 g < 2147483648 := by have := hB.1 3 g rfl; first | exact this | (simp [up2, m_cp, m_cpk] at this; exact this) | omega
        refine lv_aload_n hx hb dX5_prepares_61 rfl (lv_at hl 2 rfl) ?_
        refine q_mg hC hG hS i5 3 rfl k13 dX5_prepares_62 ?_
        refine lv_iload_n hx hb dX5_prepares_65 rfl (lv_at hl 3 rfl) ?_
        refine q_ml (N := 295) (w := M 3 i) hC hG hS 3 rfl rfl rfl (by omega) rfl dX5_prepares_66 ?_
        have b6 : M 3 i < 2147483648 := by have := hB.1 3 i rfl; first | exact this | (simp [up2, m_cp, m_cpk] at this; exact this) | omega
        refine n_le (tgt := 76) hC dX5_prepares_67 (by decide) (by omega) (by omega) (fun c67 => ?_) (fun c67 => ?_)
        · have c67n := Nat.not_lt.mpr c67
          refine lv_aload_n hx hb dX5_prepares_76 rfl (lv_at hl 2 rfl) ?_
          refine q_mg hC hG hS i5 4 rfl k16 dX5_prepares_77 ?_
          refine lv_iload_n hx hb dX5_prepares_80 rfl (lv_at hl 3 rfl) ?_
          refine lv_iload hx hb dX5_prepares_81 (lv_at hl 1 rfl) ?_
          refine lv_iload hx hb dX5_prepares_83 (lv_at hl 0 rfl) ?_
          refine q_callS (rest := [.int (nI i), .ref (mb + ao 4)]) (k_X5_greater l D cA A _ (M 4 i) (M 4 g) (by omega) (by omega)) hC hG 2 gX5_prepares_X5_greater rfl (by decide +kernel) ⟨by decide, by decide⟩ rfl hl.1 rfl (by simp [Value.category]) dX5_prepares_85 ⟨Nat.le_of_ble_eq_true rfl, Nat.le_of_ble_eq_true rfl⟩ (fun v Y H locs hq hG => ?_)
          obtain ⟨rfl, rfl⟩ := hq
          have q85 : m_gre (M 4 i) (M 4 g) < 2147483648 := m_gre_le (by omega) (by omega)
          refine lv_aload_n hx hb dX5_prepares_88 rfl (lv_at hl 2 rfl) ?_
          refine q_mg hC hG hS i5 3 rfl k13 dX5_prepares_89 ?_
          refine lv_iload_n hx hb dX5_prepares_92 rfl (lv_at hl 3 rfl) ?_
          refine q_ml (N := 295) (w := M 3 i) hC hG hS 3 rfl rfl rfl (by omega) rfl dX5_prepares_93 ?_
          have b7 : M 3 i < 2147483648 := by have := hB.1 3 i rfl; first | exact this | (simp [up2, m_cp, m_cpk] at this; exact this) | omega
          refine q_callS (rest := [.int (nI i), .ref (mb + ao 4)]) (k_X5_lesser l D cA A _ (m_gre (M 4 i) (M 4 g)) (M 3 i) (by omega) (by omega)) hC hG 2 gX5_prepares_X5_lesser rfl (by decide +kernel) ⟨by decide, by decide⟩ rfl hl.1 rfl (by simp [Value.category]) dX5_prepares_94 ⟨Nat.le_of_ble_eq_true rfl, Nat.le_of_ble_eq_true rfl⟩ (fun v Y H locs hq hG => ?_)
          obtain ⟨rfl, rfl⟩ := hq
          have q94 := m_les_le (m_gre (M 4 i) (M 4 g)) (M 3 i)
          refine q_ms (N := 295) hC hG hS 4 rfl rfl rfl (by omega) dX5_prepares_97 (fun H locs hG => ?_)
          have hB := bM_up hB 4 i (v := m_les (m_gre (M 4 i) (M 4 g)) (M 3 i)) (by omega)
          refine lv_aload_n hx hb dX5_prepares_98 rfl (lv_at hl 2 rfl) ?_
          refine lv_iload_n hx hb dX5_prepares_99 rfl (lv_at hl 3 rfl) ?_
          refine q_callV (rest := []) (k_X5_postOk l D cA A hS hB i (by omega)) hC hG cF5 hS.1 1 gX5_prepares_X5_postOk rfl (by decide +kernel) ⟨by decide, by decide⟩ rfl hl.1 rfl (by simp [Value.category]) dX5_prepares_100 ⟨Nat.le_of_ble_eq_true rfl, Nat.le_of_ble_eq_true rfl⟩ (fun v Y H locs hq hG => ?_)
          obtain ⟨rfl, rfl⟩ := hq
          have hB := bM_pok (n := n) (i := i) hB (by omega) (by omega)
          refine n_iconst hC 1 dX5_prepares_103 ?_
          exact q_zret (v := 1) hC hG hr hlk (by first | decide | omega) (⟨by simp only [m_pre, c7, c7n, c17, c34, c67, c67n, ↓reduceIte], by simp only [m_pre, c7, c7n, c17, c34, c67, c67n, ↓reduceIte]⟩) dX5_prepares_104
        · have c67n := Nat.not_le.mpr c67
          refine lv_aload_n hx hb dX5_prepares_70 rfl (lv_at hl 2 rfl) ?_
          refine lv_iload_n hx hb dX5_prepares_71 rfl (lv_at hl 4 rfl) ?_
          refine lv_iload_n hx hb dX5_prepares_72 rfl (lv_at hl 3 rfl) ?_
          refine q_callV (rest := []) (k_X5_copyLog l D cA A hS hB g i (by omega) (by omega)) hC hG cF5 hS.1 2 gX5_prepares_X5_copyLog rfl (by decide +kernel) ⟨by decide, by decide⟩ rfl hl.1 rfl (by simp [Value.category]) dX5_prepares_73 ⟨Nat.le_of_ble_eq_true rfl, Nat.le_of_ble_eq_true rfl⟩ (fun v Y H locs hq hG => ?_)
          obtain ⟨rfl, rfl⟩ := hq
          have hB := bM_cp hB g i
          refine lv_aload_n hx hb dX5_prepares_76 rfl (lv_at hl 2 rfl) ?_
          refine q_mg hC hG hS i5 4 rfl k16 dX5_prepares_77 ?_
          refine lv_iload_n hx hb dX5_prepares_80 rfl (lv_at hl 3 rfl) ?_
          refine lv_iload hx hb dX5_prepares_81 (lv_at hl 1 rfl) ?_
          refine lv_iload hx hb dX5_prepares_83 (lv_at hl 0 rfl) ?_
          refine q_callS (rest := [.int (nI i), .ref (mb + ao 4)]) (k_X5_greater l D cA A _ (M 4 i) (M 4 g) (by omega) (by omega)) hC hG 2 gX5_prepares_X5_greater rfl (by decide +kernel) ⟨by decide, by decide⟩ rfl hl.1 rfl (by simp [Value.category]) dX5_prepares_85 ⟨Nat.le_of_ble_eq_true rfl, Nat.le_of_ble_eq_true rfl⟩ (fun v Y H locs hq hG => ?_)
          obtain ⟨rfl, rfl⟩ := hq
          have q85 : m_gre (M 4 i) (M 4 g) < 2147483648 := m_gre_le (by omega) (by omega)
          refine lv_aload_n hx hb dX5_prepares_88 rfl (lv_at hl 2 rfl) ?_
          refine q_mg hC hG hS i5 3 rfl k13 dX5_prepares_89 ?_
          refine lv_iload_n hx hb dX5_prepares_92 rfl (lv_at hl 3 rfl) ?_
          refine q_ml (N := 295) (w := M 3 g) hC hG hS 3 rfl rfl rfl (by omega) (by simp [up2, m_cp, m_cpk]) dX5_prepares_93 ?_
          have b8 : M 3 g < 2147483648 := by have := hB.1 3 i rfl; first | exact this | (simp [up2, m_cp, m_cpk] at this; exact this) | omega
          refine q_callS (rest := [.int (nI i), .ref (mb + ao 4)]) (k_X5_lesser l D cA A _ (m_gre (M 4 i) (M 4 g)) (M 3 g) (by omega) (by omega)) hC hG 2 gX5_prepares_X5_lesser rfl (by decide +kernel) ⟨by decide, by decide⟩ rfl hl.1 rfl (by simp [Value.category]) dX5_prepares_94 ⟨Nat.le_of_ble_eq_true rfl, Nat.le_of_ble_eq_true rfl⟩ (fun v Y H locs hq hG => ?_)
          obtain ⟨rfl, rfl⟩ := hq
          have q94 := m_les_le (m_gre (M 4 i) (M 4 g)) (M 3 g)
          refine q_ms (N := 295) hC hG hS 4 rfl rfl rfl (by omega) dX5_prepares_97 (fun H locs hG => ?_)
          have hB := bM_up hB 4 i (v := m_les (m_gre (M 4 i) (M 4 g)) (M 3 g)) (by omega)
          refine lv_aload_n hx hb dX5_prepares_98 rfl (lv_at hl 2 rfl) ?_
          refine lv_iload_n hx hb dX5_prepares_99 rfl (lv_at hl 3 rfl) ?_
          refine q_callV (rest := []) (k_X5_postOk l D cA A hS hB i (by omega)) hC hG cF5 hS.1 1 gX5_prepares_X5_postOk rfl (by decide +kernel) ⟨by decide, by decide⟩ rfl hl.1 rfl (by simp [Value.category]) dX5_prepares_100 ⟨Nat.le_of_ble_eq_true rfl, Nat.le_of_ble_eq_true rfl⟩ (fun v Y H locs hq hG => ?_)
          obtain ⟨rfl, rfl⟩ := hq
          have hB := bM_pok (n := n) (i := i) hB (by omega) (by omega)
          refine n_iconst hC 1 dX5_prepares_103 ?_
          exact q_zret (v := 1) hC hG hr hlk (by first | decide | omega) (⟨by simp only [m_pre, c7, c7n, c17, c34, c67, c67n, ↓reduceIte], by simp only [m_pre, c7, c7n, c17, c34, c67, c67n, ↓reduceIte]⟩) dX5_prepares_104
      · refine n_iconst hC 0 dX5_prepares_37 ?_
        exact q_zret (v := 0) hC hG hr hlk (by first | decide | omega) (⟨by simp only [m_pre, c7, c7n, c17, c34, ↓reduceIte], by simp only [m_pre, c7, c7n, c17, c34, ↓reduceIte]⟩) dX5_prepares_38
    · refine lv_aload_n hx hb dX5_prepares_20 rfl (lv_at hl 0 rfl) ?_
      refine lv_iload_n hx hb dX5_prepares_21 rfl (lv_at hl 1 rfl) ?_
      refine lv_iload_n hx hb dX5_prepares_22 rfl (lv_at hl 2 rfl) ?_
      refine lv_iload_n hx hb dX5_prepares_23 rfl (lv_at hl 3 rfl) ?_
      refine q_callV (rest := []) (k_X5_havingAs l D cA A hS hB i g v (by omega) (by omega) (by omega)) hC hG cF5 hS.1 3 gX5_prepares_X5_havingAs rfl (by decide +kernel) ⟨by decide, by decide⟩ rfl hl.1 rfl (by simp [Value.category]) dX5_prepares_24 ⟨Nat.le_of_ble_eq_true rfl, Nat.le_of_ble_eq_true rfl⟩ (fun v Y H locs hq hG => ?_)
      obtain ⟨rfl, rfl⟩ := hq
      have hB := bM_hav (n := n) (i := i) (g := g) (v := v) hB (by omega) (by omega) (by omega)
      refine n_iconst hC 1 dX5_prepares_27 ?_
      exact q_zret (v := 1) hC hG hr hlk (by first | decide | omega) (⟨by simp only [m_pre, c7, c7n, c17, ↓reduceIte], by simp only [m_pre, c7, c7n, c17, ↓reduceIte]⟩) dX5_prepares_28

/-- how many of the places base .. base + j - 1 of array x aren't 0 -/
def m_cnt (M : MM) (x base : Nat) : Nat → Nat
  | 0 => 0
  | j + 1 => m_cnt M x base j + (if M x (base + j) = 0 then 0 else 1)
theorem m_cnt_le (M : MM) (x base : Nat) : ∀ j, m_cnt M x base j ≤ j := by
  intro j
  induction j with
  | zero => exact Nat.le_refl 0
  | succ j ih => unfold m_cnt; split <;> omega

abbrev rmX5_voters : Room := { frames := 0, cells := 0, slots := 0, locals := 0 }
set_option maxHeartbeats 4000000 in
set_option maxRecDepth 100000 in
theorem k_X5_voters (l : Launch) (D : va_G) (cA : Nat → ClassId) (A : Nat → Prop) {mb n f : Nat} {X : Mem} {M : MM} (hS : mS mb n f X) (hB : bM M) (i : Nat) (hi : i < n) : mt l D cA A yX5_voters wsX5_voters rmX5_voters [.ref mb, .int (nI i)] (sM mb X M) (fun w Y => w = some (.int (nI (m_cnt M 11 (5 * i) n))) ∧ Y = sM mb X M) := by
  refine q_start (by decide) rfl (Nat.le_of_ble_eq_true rfl) (fun p e s m args below meth c H locs hC hr hlk hnm hG ls hl => ?_)
  have hl : lv_has ls 4 [(0, .ref mb), (1, .int (nI i))] := hl
  have hx := hC.1.1
  have hb := hC.1.2.1
  have hts := hC.1.2.2.2.2
  have i5 : ∀ w ∈ wsX50, w ∈ wsX5_voters := by decide +kernel
  have hnf := hS.2.2.2.2
  have k38 := hts (.fieldLink RX5 38 "ViewStampsModel" "isVoter" "[Z") (by decide +kernel)
  have k77 := hts (.fieldLink RX5 77 "ViewStampsModel" "n" "I") (by decide +kernel)
  have loop : ∀ (d : Nat) (k j : Nat) (H : Heap) (locs : List Loc) (ls : Array Slot), n - j < d → j ≤ n → k = m_cnt M 11 (5 * i) j → gw D cA A (sM mb X M) s.heap H locs → lv_has ls 4 [(0, .ref mb), (1, .int (nI i)), (2, .int (nI k)), (3, .int (nI j))] → W p l e rmX5_voters s m args below meth c H locs 0 0 (MQ below (mQ D cA A (fun w Y => w = some (.int (nI (m_cnt M 11 (5 * i) n))) ∧ Y = sM mb X M)) args s rmX5_voters.cells rmX5_voters.slots A) (F0 m 4 ls []) := by
    intro d
    induction d with
    | zero => intro k j H locs ls hd; exact absurd hd (Nat.not_lt_zero _)
    | succ d ih =>
      intro k j H locs ls hd hj hk hG hl
      have hk2 := m_cnt_le M 11 (5 * i) j
      refine lv_iload_n hx hb dX5_voters_4 rfl (lv_at hl 3 rfl) ?_
      refine lv_aload_n hx hb dX5_voters_5 rfl (lv_at hl 0 rfl) ?_
      refine q_mn hC hG hS i5 k77 dX5_voters_6 ?_
      refine n_ge (tgt := 39) hC dX5_voters_9 (by decide) (by omega) (by omega) (fun c9 => ?_) (fun c9 => ?_)
      · have c9n := Nat.not_lt.mpr c9
        refine lv_iload_n hx hb dX5_voters_39 rfl (lv_at hl 2 rfl) ?_
        exact q_iret (v := (nI k)) hC hG hr hlk (⟨by rw [hk, show j = n by omega], rfl⟩) dX5_voters_40
      · have c9n := Nat.not_le.mpr c9
        refine lv_iload_n hx hb dX5_voters_12 rfl (lv_at hl 2 rfl) ?_
        refine lv_aload_n hx hb dX5_voters_13 rfl (lv_at hl 0 rfl) ?_
        refine q_mg hC hG hS i5 11 rfl k38 dX5_voters_14 ?_
        refine n_iconst hC 5 dX5_voters_17 ?_
        refine lv_iload_n hx hb dX5_voters_18 rfl (lv_at hl 1 rfl) ?_
        refine n_imul hC dX5_voters_19 ?_
        refine lv_iload_n hx hb dX5_voters_20 rfl (lv_at hl 3 rfl) ?_
        refine n_iadd hC dX5_voters_21 ?_
        refine q_mlz (N := 25) (w := M 11 ((5 * i) + j)) hC hG hS 11 rfl rfl rfl (by omega) rfl dX5_voters_22 ?_
        have b1 : M 11 ((5 * i) + j) < 2147483648 := by have := hB.1 11 ((5 * i) + j) rfl; first | exact this | (simp [up2, m_cp, m_cpk] at this; exact this) | omega
        refine n_ifeq (tgt := 30) hC dX5_voters_23 (by decide) (by omega) (fun c23 => ?_) (fun c23 => ?_)
        · refine n_iconst hC 0 dX5_voters_30 ?_
          refine n_iadd hC dX5_voters_31 ?_
          refine lv_istore_n (lv' := [(2, .int (nI (k + 0))), (0, .ref mb), (1, .int (nI i)), (3, .int (nI j))]) hx hb dX5_voters_32 rfl hl (by decide) rfl (fun ls hl => ?_)
          refine n_iinc (n := 1) (k := 3) (lv' := [(3, .int (nI (j + 1))), (2, .int (nI (k + 0))), (0, .ref mb), (1, .int (nI i))]) hC dX5_voters_33 hl rfl (by decide) rfl (fun ls hl => ?_)
          refine lv_goto (tgt := 4) hx hb dX5_voters_36 (by decide) ?_
          exact ih (k + 0) (j + 1) _ _ _ (by omega) (by omega) (by rw [m_cnt, ← hk]; simp only [c23, ↓reduceIte]) hG (lv_sub hl [2, 3, 1, 0] rfl)
        · refine n_iconst hC 1 dX5_voters_26 ?_
          refine lv_goto (tgt := 31) hx hb dX5_voters_27 (by decide) ?_
          refine n_iadd hC dX5_voters_31 ?_
          refine lv_istore_n (lv' := [(2, .int (nI (k + 1))), (0, .ref mb), (1, .int (nI i)), (3, .int (nI j))]) hx hb dX5_voters_32 rfl hl (by decide) rfl (fun ls hl => ?_)
          refine n_iinc (n := 1) (k := 3) (lv' := [(3, .int (nI (j + 1))), (2, .int (nI (k + 1))), (0, .ref mb), (1, .int (nI i))]) hC dX5_voters_33 hl rfl (by decide) rfl (fun ls hl => ?_)
          refine lv_goto (tgt := 4) hx hb dX5_voters_36 (by decide) ?_
          exact ih (k + 1) (j + 1) _ _ _ (by omega) (by omega) (by rw [m_cnt, ← hk]; simp only [c23, ↓reduceIte]) hG (lv_sub hl [2, 3, 1, 0] rfl)
  refine n_iconst hC 0 dX5_voters_0 ?_
  refine lv_istore_n (lv' := [(2, .int (nI 0)), (0, .ref mb), (1, .int (nI i))]) hx hb dX5_voters_1 rfl hl (by decide) rfl (fun ls hl => ?_)
  refine n_iconst hC 0 dX5_voters_2 ?_
  refine lv_istore_n (lv' := [(3, .int (nI 0)), (2, .int (nI 0)), (0, .ref mb), (1, .int (nI i))]) hx hb dX5_voters_3 rfl hl (by decide) rfl (fun ls hl => ?_)
  exact loop (n + 1) 0 0 _ _ _ (by omega) (by omega) rfl hG (lv_sub hl [2, 3, 1, 0] rfl)

abbrev rmX5_votes : Room := { frames := 0, cells := 0, slots := 0, locals := 0 }
set_option maxHeartbeats 4000000 in
set_option maxRecDepth 100000 in
theorem k_X5_votes (l : Launch) (D : va_G) (cA : Nat → ClassId) (A : Nat → Prop) {mb n f : Nat} {X : Mem} {M : MM} (hS : mS mb n f X) (hB : bM M) (i : Nat) (hi : i < n) : mt l D cA A yX5_votes wsX5_votes rmX5_votes [.ref mb, .int (nI i)] (sM mb X M) (fun w Y => w = some (.int (nI (m_cnt M 12 (5 * i) n))) ∧ Y = sM mb X M) := by
  refine q_start (by decide) rfl (Nat.le_of_ble_eq_true rfl) (fun p e s m args below meth c H locs hC hr hlk hnm hG ls hl => ?_)
  have hl : lv_has ls 4 [(0, .ref mb), (1, .int (nI i))] := hl
  have hx := hC.1.1
  have hb := hC.1.2.1
  have hts := hC.1.2.2.2.2
  have i5 : ∀ w ∈ wsX50, w ∈ wsX5_votes := by decide +kernel
  have hnf := hS.2.2.2.2
  have k41 := hts (.fieldLink RX5 41 "ViewStampsModel" "hasVote" "[Z") (by decide +kernel)
  have k77 := hts (.fieldLink RX5 77 "ViewStampsModel" "n" "I") (by decide +kernel)
  have loop : ∀ (d : Nat) (k j : Nat) (H : Heap) (locs : List Loc) (ls : Array Slot), n - j < d → j ≤ n → k = m_cnt M 12 (5 * i) j → gw D cA A (sM mb X M) s.heap H locs → lv_has ls 4 [(0, .ref mb), (1, .int (nI i)), (2, .int (nI k)), (3, .int (nI j))] → W p l e rmX5_votes s m args below meth c H locs 0 0 (MQ below (mQ D cA A (fun w Y => w = some (.int (nI (m_cnt M 12 (5 * i) n))) ∧ Y = sM mb X M)) args s rmX5_votes.cells rmX5_votes.slots A) (F0 m 4 ls []) := by
    intro d
    induction d with
    | zero => intro k j H locs ls hd; exact absurd hd (Nat.not_lt_zero _)
    | succ d ih =>
      intro k j H locs ls hd hj hk hG hl
      have hk2 := m_cnt_le M 12 (5 * i) j
      refine lv_iload_n hx hb dX5_votes_4 rfl (lv_at hl 3 rfl) ?_
      refine lv_aload_n hx hb dX5_votes_5 rfl (lv_at hl 0 rfl) ?_
      refine q_mn hC hG hS i5 k77 dX5_votes_6 ?_
      refine n_ge (tgt := 39) hC dX5_votes_9 (by decide) (by omega) (by omega) (fun c9 => ?_) (fun c9 => ?_)
      · have c9n := Nat.not_lt.mpr c9
        refine lv_iload_n hx hb dX5_votes_39 rfl (lv_at hl 2 rfl) ?_
        exact q_iret (v := (nI k)) hC hG hr hlk (⟨by rw [hk, show j = n by omega], rfl⟩) dX5_votes_40
      · have c9n := Nat.not_le.mpr c9
        refine lv_iload_n hx hb dX5_votes_12 rfl (lv_at hl 2 rfl) ?_
        refine lv_aload_n hx hb dX5_votes_13 rfl (lv_at hl 0 rfl) ?_
        refine q_mg hC hG hS i5 12 rfl k41 dX5_votes_14 ?_
        refine n_iconst hC 5 dX5_votes_17 ?_
        refine lv_iload_n hx hb dX5_votes_18 rfl (lv_at hl 1 rfl) ?_
        refine n_imul hC dX5_votes_19 ?_
        refine lv_iload_n hx hb dX5_votes_20 rfl (lv_at hl 3 rfl) ?_
        refine n_iadd hC dX5_votes_21 ?_
        refine q_mlz (N := 25) (w := M 12 ((5 * i) + j)) hC hG hS 12 rfl rfl rfl (by omega) rfl dX5_votes_22 ?_
        have b1 : M 12 ((5 * i) + j) < 2147483648 := by have := hB.1 12 ((5 * i) + j) rfl; first | exact this | (simp [up2, m_cp, m_cpk] at this; exact this) | omega
        refine n_ifeq (tgt := 30) hC dX5_votes_23 (by decide) (by omega) (fun c23 => ?_) (fun c23 => ?_)
        · refine n_iconst hC 0 dX5_votes_30 ?_
          refine n_iadd hC dX5_votes_31 ?_
          refine lv_istore_n (lv' := [(2, .int (nI (k + 0))), (0, .ref mb), (1, .int (nI i)), (3, .int (nI j))]) hx hb dX5_votes_32 rfl hl (by decide) rfl (fun ls hl => ?_)
          refine n_iinc (n := 1) (k := 3) (lv' := [(3, .int (nI (j + 1))), (2, .int (nI (k + 0))), (0, .ref mb), (1, .int (nI i))]) hC dX5_votes_33 hl rfl (by decide) rfl (fun ls hl => ?_)
          refine lv_goto (tgt := 4) hx hb dX5_votes_36 (by decide) ?_
          exact ih (k + 0) (j + 1) _ _ _ (by omega) (by omega) (by rw [m_cnt, ← hk]; simp only [c23, ↓reduceIte]) hG (lv_sub hl [2, 3, 1, 0] rfl)
        · refine n_iconst hC 1 dX5_votes_26 ?_
          refine lv_goto (tgt := 31) hx hb dX5_votes_27 (by decide) ?_
          refine n_iadd hC dX5_votes_31 ?_
          refine lv_istore_n (lv' := [(2, .int (nI (k + 1))), (0, .ref mb), (1, .int (nI i)), (3, .int (nI j))]) hx hb dX5_votes_32 rfl hl (by decide) rfl (fun ls hl => ?_)
          refine n_iinc (n := 1) (k := 3) (lv' := [(3, .int (nI (j + 1))), (2, .int (nI (k + 1))), (0, .ref mb), (1, .int (nI i))]) hC dX5_votes_33 hl rfl (by decide) rfl (fun ls hl => ?_)
          refine lv_goto (tgt := 4) hx hb dX5_votes_36 (by decide) ?_
          exact ih (k + 1) (j + 1) _ _ _ (by omega) (by omega) (by rw [m_cnt, ← hk]; simp only [c23, ↓reduceIte]) hG (lv_sub hl [2, 3, 1, 0] rfl)
  refine n_iconst hC 0 dX5_votes_0 ?_
  refine lv_istore_n (lv' := [(2, .int (nI 0)), (0, .ref mb), (1, .int (nI i))]) hx hb dX5_votes_1 rfl hl (by decide) rfl (fun ls hl => ?_)
  refine n_iconst hC 0 dX5_votes_2 ?_
  refine lv_istore_n (lv' := [(3, .int (nI 0)), (2, .int (nI 0)), (0, .ref mb), (1, .int (nI i))]) hx hb dX5_votes_3 rfl hl (by decide) rfl (fun ls hl => ?_)
  exact loop (n + 1) 0 0 _ _ _ (by omega) (by omega) rfl hG (lv_sub hl [2, 3, 1, 0] rfl)

abbrev rmX5_tales : Room := { frames := 0, cells := 0, slots := 0, locals := 0 }
set_option maxHeartbeats 4000000 in
set_option maxRecDepth 100000 in
theorem k_X5_tales (l : Launch) (D : va_G) (cA : Nat → ClassId) (A : Nat → Prop) {mb n f : Nat} {X : Mem} {M : MM} (hS : mS mb n f X) (hB : bM M) (i : Nat) (hi : i < n) : mt l D cA A yX5_tales wsX5_tales rmX5_tales [.ref mb, .int (nI i)] (sM mb X M) (fun w Y => w = some (.int (nI (m_cnt M 14 (5 * i) n))) ∧ Y = sM mb X M) := by
  refine q_start (by decide) rfl (Nat.le_of_ble_eq_true rfl) (fun p e s m args below meth c H locs hC hr hlk hnm hG ls hl => ?_)
  have hl : lv_has ls 4 [(0, .ref mb), (1, .int (nI i))] := hl
  have hx := hC.1.1
  have hb := hC.1.2.1
  have hts := hC.1.2.2.2.2
  have i5 : ∀ w ∈ wsX50, w ∈ wsX5_tales := by decide +kernel
  have hnf := hS.2.2.2.2
  have k47 := hts (.fieldLink RX5 47 "ViewStampsModel" "hasTale" "[Z") (by decide +kernel)
  have k77 := hts (.fieldLink RX5 77 "ViewStampsModel" "n" "I") (by decide +kernel)
  have loop : ∀ (d : Nat) (k j : Nat) (H : Heap) (locs : List Loc) (ls : Array Slot), n - j < d → j ≤ n → k = m_cnt M 14 (5 * i) j → gw D cA A (sM mb X M) s.heap H locs → lv_has ls 4 [(0, .ref mb), (1, .int (nI i)), (2, .int (nI k)), (3, .int (nI j))] → W p l e rmX5_tales s m args below meth c H locs 0 0 (MQ below (mQ D cA A (fun w Y => w = some (.int (nI (m_cnt M 14 (5 * i) n))) ∧ Y = sM mb X M)) args s rmX5_tales.cells rmX5_tales.slots A) (F0 m 4 ls []) := by
    intro d
    induction d with
    | zero => intro k j H locs ls hd; exact absurd hd (Nat.not_lt_zero _)
    | succ d ih =>
      intro k j H locs ls hd hj hk hG hl
      have hk2 := m_cnt_le M 14 (5 * i) j
      refine lv_iload_n hx hb dX5_tales_4 rfl (lv_at hl 3 rfl) ?_
      refine lv_aload_n hx hb dX5_tales_5 rfl (lv_at hl 0 rfl) ?_
      refine q_mn hC hG hS i5 k77 dX5_tales_6 ?_
      refine n_ge (tgt := 39) hC dX5_tales_9 (by decide) (by omega) (by omega) (fun c9 => ?_) (fun c9 => ?_)
      · have c9n := Nat.not_lt.mpr c9
        refine lv_iload_n hx hb dX5_tales_39 rfl (lv_at hl 2 rfl) ?_
        exact q_iret (v := (nI k)) hC hG hr hlk (⟨by rw [hk, show j = n by omega], rfl⟩) dX5_tales_40
      · have c9n := Nat.not_le.mpr c9
        refine lv_iload_n hx hb dX5_tales_12 rfl (lv_at hl 2 rfl) ?_
        refine lv_aload_n hx hb dX5_tales_13 rfl (lv_at hl 0 rfl) ?_
        refine q_mg hC hG hS i5 14 rfl k47 dX5_tales_14 ?_
        refine n_iconst hC 5 dX5_tales_17 ?_
        refine lv_iload_n hx hb dX5_tales_18 rfl (lv_at hl 1 rfl) ?_
        refine n_imul hC dX5_tales_19 ?_
        refine lv_iload_n hx hb dX5_tales_20 rfl (lv_at hl 3 rfl) ?_
        refine n_iadd hC dX5_tales_21 ?_
        refine q_mlz (N := 25) (w := M 14 ((5 * i) + j)) hC hG hS 14 rfl rfl rfl (by omega) rfl dX5_tales_22 ?_
        have b1 : M 14 ((5 * i) + j) < 2147483648 := by have := hB.1 14 ((5 * i) + j) rfl; first | exact this | (simp [up2, m_cp, m_cpk] at this; exact this) | omega
        refine n_ifeq (tgt := 30) hC dX5_tales_23 (by decide) (by omega) (fun c23 => ?_) (fun c23 => ?_)
        · refine n_iconst hC 0 dX5_tales_30 ?_
          refine n_iadd hC dX5_tales_31 ?_
          refine lv_istore_n (lv' := [(2, .int (nI (k + 0))), (0, .ref mb), (1, .int (nI i)), (3, .int (nI j))]) hx hb dX5_tales_32 rfl hl (by decide) rfl (fun ls hl => ?_)
          refine n_iinc (n := 1) (k := 3) (lv' := [(3, .int (nI (j + 1))), (2, .int (nI (k + 0))), (0, .ref mb), (1, .int (nI i))]) hC dX5_tales_33 hl rfl (by decide) rfl (fun ls hl => ?_)
          refine lv_goto (tgt := 4) hx hb dX5_tales_36 (by decide) ?_
          exact ih (k + 0) (j + 1) _ _ _ (by omega) (by omega) (by rw [m_cnt, ← hk]; simp only [c23, ↓reduceIte]) hG (lv_sub hl [2, 3, 1, 0] rfl)
        · refine n_iconst hC 1 dX5_tales_26 ?_
          refine lv_goto (tgt := 31) hx hb dX5_tales_27 (by decide) ?_
          refine n_iadd hC dX5_tales_31 ?_
          refine lv_istore_n (lv' := [(2, .int (nI (k + 1))), (0, .ref mb), (1, .int (nI i)), (3, .int (nI j))]) hx hb dX5_tales_32 rfl hl (by decide) rfl (fun ls hl => ?_)
          refine n_iinc (n := 1) (k := 3) (lv' := [(3, .int (nI (j + 1))), (2, .int (nI (k + 1))), (0, .ref mb), (1, .int (nI i))]) hC dX5_tales_33 hl rfl (by decide) rfl (fun ls hl => ?_)
          refine lv_goto (tgt := 4) hx hb dX5_tales_36 (by decide) ?_
          exact ih (k + 1) (j + 1) _ _ _ (by omega) (by omega) (by rw [m_cnt, ← hk]; simp only [c23, ↓reduceIte]) hG (lv_sub hl [2, 3, 1, 0] rfl)
  refine n_iconst hC 0 dX5_tales_0 ?_
  refine lv_istore_n (lv' := [(2, .int (nI 0)), (0, .ref mb), (1, .int (nI i))]) hx hb dX5_tales_1 rfl hl (by decide) rfl (fun ls hl => ?_)
  refine n_iconst hC 0 dX5_tales_2 ?_
  refine lv_istore_n (lv' := [(3, .int (nI 0)), (2, .int (nI 0)), (0, .ref mb), (1, .int (nI i))]) hx hb dX5_tales_3 rfl hl (by decide) rfl (fun ls hl => ?_)
  exact loop (n + 1) 0 0 _ _ _ (by omega) (by omega) rfl hG (lv_sub hl [2, 3, 1, 0] rfl)

def m_fgk (M : MM) (i k : Nat) : MM := fun x y => if (x = 11 ∨ x = 12) ∧ 5 * i ≤ y ∧ y < 5 * i + k then 0 else M x y
def m_fg (M : MM) (i : Nat) : MM := up2 (m_fgk M i 5) 8 i 0
theorem m_fgk_s (M : MM) (i k : Nat) : up2 (up2 (m_fgk M i k) 11 (5 * i + k) 0) 12 (5 * i + k) 0 = m_fgk M i (k + 1) := by
  funext x y
  unfold up2 m_fgk
  by_cases h1 : x = 11
  · subst h1
    by_cases hy : y = 5 * i + k
    · subst hy; simp
    · have : (5 * i ≤ y ∧ y < 5 * i + k) ↔ (5 * i ≤ y ∧ y < 5 * i + (k + 1)) := by omega
      simp [hy, this]
  · by_cases h2 : x = 12
    · subst h2
      by_cases hy : y = 5 * i + k
      · subst hy; simp
      · have : (5 * i ≤ y ∧ y < 5 * i + k) ↔ (5 * i ≤ y ∧ y < 5 * i + (k + 1)) := by omega
        simp [hy, this]
    · simp [h1, h2]
theorem m_fgk_0 (M : MM) (i : Nat) : m_fgk M i 0 = M := by
  funext x y
  unfold m_fgk
  rw [if_neg (by omega)]
theorem bM_fgk {M : MM} (h : bM M) (i k : Nat) : bM (m_fgk M i k) := by
  refine ⟨fun x y hx => ?_, ?_⟩
  · unfold m_fgk
    split
    · decide
    · exact h.1 x y hx
  · have : m_fgk M i k 17 0 = M 17 0 := by simp [m_fgk]
    rw [this]; exact h.2
theorem bM_fg {M : MM} (h : bM M) (i : Nat) : bM (m_fg M i) := bM_up (bM_fgk h i 5) 8 i (by decide)

abbrev rmX5_forget : Room := { frames := 0, cells := 0, slots := 0, locals := 0 }
set_option maxHeartbeats 4000000 in
set_option maxRecDepth 100000 in
theorem k_X5_forget (l : Launch) (D : va_G) (cA : Nat → ClassId) (A : Nat → Prop) {mb n f : Nat} {X : Mem} {M : MM} (hS : mS mb n f X) (hB : bM M) (i : Nat) (hi : i < n) : mt l D cA A yX5_forget wsX5_forget rmX5_forget [.ref mb, .int (nI i)] (sM mb X M) (fun w Y => w = none ∧ Y = sM mb X (m_fg M i)) := by
  refine q_start (by decide) rfl (Nat.le_of_ble_eq_true rfl) (fun p e s m args below meth c H locs hC hr hlk hnm hG ls hl => ?_)
  have hl : lv_has ls 3 [(0, .ref mb), (1, .int (nI i))] := hl
  have hx := hC.1.1
  have hb := hC.1.2.1
  have hts := hC.1.2.2.2.2
  have i5 : ∀ w ∈ wsX50, w ∈ wsX5_forget := by decide +kernel
  have hnf := hS.2.2.2.2
  have hB0 := hB
  have k28 := hts (.fieldLink RX5 28 "ViewStampsModel" "voted" "[Z") (by decide +kernel)
  have k38 := hts (.fieldLink RX5 38 "ViewStampsModel" "isVoter" "[Z") (by decide +kernel)
  have k41 := hts (.fieldLink RX5 41 "ViewStampsModel" "hasVote" "[Z") (by decide +kernel)
  have loop : ∀ (d : Nat) (k : Nat) (H : Heap) (locs : List Loc) (ls : Array Slot), 5 - k < d → k ≤ 5 → bM (m_fgk M i k) → gw D cA A (sM mb X (m_fgk M i k)) s.heap H locs → lv_has ls 3 [(0, .ref mb), (1, .int (nI i)), (2, .int (nI k))] → W p l e rmX5_forget s m args below meth c H locs 0 0 (MQ below (mQ D cA A (fun w Y => w = none ∧ Y = sM mb X (m_fg M i))) args s rmX5_forget.cells rmX5_forget.slots A) (F0 m 2 ls []) := by
    intro d
    induction d with
    | zero => intro k H locs ls hd; exact absurd hd (Nat.not_lt_zero _)
    | succ d ih =>
      intro k H locs ls hd hk hB hG hl
      refine lv_iload_n hx hb dX5_forget_2 rfl (lv_at hl 2 rfl) ?_
      refine n_iconst hC 5 dX5_forget_3 ?_
      refine n_ge (tgt := 35) hC dX5_forget_4 (by decide) (by omega) (by omega) (fun c4 => ?_) (fun c4 => ?_)
      · have c4n := Nat.not_lt.mpr c4
        refine lv_aload_n hx hb dX5_forget_35 rfl (lv_at hl 0 rfl) ?_
        refine q_mg hC hG hS i5 8 rfl k28 dX5_forget_36 ?_
        refine lv_iload_n hx hb dX5_forget_39 rfl (lv_at hl 1 rfl) ?_
        refine n_iconst hC 0 dX5_forget_40 ?_
        refine q_msz (N := 5) hC hG hS 8 rfl rfl rfl (by omega) (by omega) dX5_forget_41 (fun H locs hG => ?_)
        have hB := bM_up hB 8 i (v := 0) (by omega)
        exact q_vret hC hG hr hlk (⟨rfl, by rw [show k = 5 by omega]; rfl⟩) dX5_forget_42
      · have c4n := Nat.not_le.mpr c4
        refine lv_aload_n hx hb dX5_forget_7 rfl (lv_at hl 0 rfl) ?_
        refine q_mg hC hG hS i5 11 rfl k38 dX5_forget_8 ?_
        refine n_iconst hC 5 dX5_forget_11 ?_
        refine lv_iload_n hx hb dX5_forget_12 rfl (lv_at hl 1 rfl) ?_
        refine n_imul hC dX5_forget_13 ?_
        refine lv_iload_n hx hb dX5_forget_14 rfl (lv_at hl 2 rfl) ?_
        refine n_iadd hC dX5_forget_15 ?_
        refine n_iconst hC 0 dX5_forget_16 ?_
        refine q_msz (N := 25) hC hG hS 11 rfl rfl rfl (by omega) (by omega) dX5_forget_17 (fun H locs hG => ?_)
        have hB := bM_up hB 11 ((5 * i) + k) (v := 0) (by omega)
        refine lv_aload_n hx hb dX5_forget_18 rfl (lv_at hl 0 rfl) ?_
        refine q_mg hC hG hS i5 12 rfl k41 dX5_forget_19 ?_
        refine n_iconst hC 5 dX5_forget_22 ?_
        refine lv_iload_n hx hb dX5_forget_23 rfl (lv_at hl 1 rfl) ?_
        refine n_imul hC dX5_forget_24 ?_
        refine lv_iload_n hx hb dX5_forget_25 rfl (lv_at hl 2 rfl) ?_
        refine n_iadd hC dX5_forget_26 ?_
        refine n_iconst hC 0 dX5_forget_27 ?_
        refine q_msz (N := 25) hC hG hS 12 rfl rfl rfl (by omega) (by omega) dX5_forget_28 (fun H locs hG => ?_)
        have hB := bM_up hB 12 ((5 * i) + k) (v := 0) (by omega)
        refine n_iinc (n := 1) (k := 2) (lv' := [(2, .int (nI (k + 1))), (0, .ref mb), (1, .int (nI i))]) hC dX5_forget_29 hl rfl (by decide) rfl (fun ls hl => ?_)
        refine lv_goto (tgt := 2) hx hb dX5_forget_32 (by decide) ?_
        have hG : gw D cA A (sM mb X (up2 (up2 (m_fgk M i k) 11 (5 * i + k) 0) 12 (5 * i + k) 0)) _ _ _ := hG
        rw [m_fgk_s] at hG
        exact ih (k + 1) _ _ _ (by omega) (by omega) (bM_fgk hB0 i _) hG (lv_sub hl [1, 2, 0] rfl)
  refine n_iconst hC 0 dX5_forget_0 ?_
  refine lv_istore_n (lv' := [(2, .int (nI 0)), (0, .ref mb), (1, .int (nI i))]) hx hb dX5_forget_1 rfl hl (by decide) rfl (fun ls hl => ?_)
  exact loop 6 0 _ _ _ (by omega) (by omega) (bM_fgk hB0 i 0) (by rw [m_fgk_0]; exact hG) (lv_sub hl [1, 2, 0] rfl)

def m_chg (n : Nat) (M : MM) (i v : Nat) : MM := m_pa (m_fg (up2 (up2 M 6 i v) 5 i 1) i) i 3 v 0 n
theorem bM_chg {n : Nat} {M : MM} (h : bM M) {i v : Nat} (hi : i < 2147483648) (hn : n < 2147483648) (hv : v < 2147483648) : bM (m_chg n M i v) :=
  bM_pa (bM_fg (bM_up (bM_up h 6 i hv) 5 i (by decide)) i) hi (by decide) hv (by decide) n hn

abbrev rmX5_changes : Room := { frames := 3, cells := 0, slots := 0, locals := 73 }
set_option maxHeartbeats 4000000 in
set_option maxRecDepth 100000 in
theorem k_X5_changes (l : Launch) (D : va_G) (cA : Nat → ClassId) (A : Nat → Prop) {mb n f : Nat} {X : Mem} {M : MM} (hS : mS mb n f X) (hB : bM M) (i v : Nat) (hi : i < n) (hv : v < 2147483648) : mt l D cA A yX5_changes wsX5_changes rmX5_changes [.ref mb, .int (nI i), .int (nI v)] (sM mb X M) (fun w Y => w = none ∧ Y = sM mb X (m_chg n M i v)) := by
  refine q_start (by decide) rfl (Nat.le_of_ble_eq_true rfl) (fun p e s m args below meth c H locs hC hr hlk hnm hG ls hl => ?_)
  have hl : lv_has ls 4 [(0, .ref mb), (1, .int (nI i)), (2, .int (nI v))] := hl
  have hx := hC.1.1
  have hb := hC.1.2.1
  have hts := hC.1.2.2.2.2
  have i5 : ∀ w ∈ wsX50, w ∈ wsX5_changes := by decide +kernel
  have hnf := hS.2.2.2.2
  have k19 := hts (.fieldLink RX5 19 "ViewStampsModel" "status" "[I") (by decide +kernel)
  have k22 := hts (.fieldLink RX5 22 "ViewStampsModel" "view" "[I") (by decide +kernel)
  refine lv_aload_n hx hb dX5_changes_0 rfl (lv_at hl 0 rfl) ?_
  refine q_mg hC hG hS i5 6 rfl k22 dX5_changes_1 ?_
  refine lv_iload_n hx hb dX5_changes_4 rfl (lv_at hl 1 rfl) ?_
  refine lv_iload_n hx hb dX5_changes_5 rfl (lv_at hl 2 rfl) ?_
  refine q_ms (N := 5) hC hG hS 6 rfl rfl rfl (by omega) dX5_changes_6 (fun H locs hG => ?_)
  have hB := bM_up hB 6 i (v := v) (by omega)
  refine lv_aload_n hx hb dX5_changes_7 rfl (lv_at hl 0 rfl) ?_
  refine q_mg hC hG hS i5 5 rfl k19 dX5_changes_8 ?_
  refine lv_iload_n hx hb dX5_changes_11 rfl (lv_at hl 1 rfl) ?_
  refine n_iconst hC 1 dX5_changes_12 ?_
  refine q_ms (N := 5) hC hG hS 5 rfl rfl rfl (by omega) dX5_changes_13 (fun H locs hG => ?_)
  have hB := bM_up hB 5 i (v := 1) (by omega)
  refine lv_aload_n hx hb dX5_changes_14 rfl (lv_at hl 0 rfl) ?_
  refine lv_iload_n hx hb dX5_changes_15 rfl (lv_at hl 1 rfl) ?_
  refine q_callV (rest := []) (k_X5_forget l D cA A hS hB i (by omega)) hC hG cF5 hS.1 1 gX5_changes_X5_forget rfl (by decide +kernel) ⟨by decide, by decide⟩ rfl hl.1 rfl (by simp [Value.category]) dX5_changes_16 ⟨Nat.le_of_ble_eq_true rfl, Nat.le_of_ble_eq_true rfl⟩ (fun v Y H locs hq hG => ?_)
  obtain ⟨rfl, rfl⟩ := hq
  have hB := bM_fg hB i
  refine lv_aload_n hx hb dX5_changes_19 rfl (lv_at hl 0 rfl) ?_
  refine lv_iload_n hx hb dX5_changes_20 rfl (lv_at hl 1 rfl) ?_
  refine n_iconst hC 3 dX5_changes_21 ?_
  refine lv_iload_n hx hb dX5_changes_22 rfl (lv_at hl 2 rfl) ?_
  refine n_iconst hC 0 dX5_changes_23 ?_
  refine q_callV (rest := []) (k_X5_postAll l D cA A hS hB i 3 v 0 (by omega) (by omega) (by omega) (by omega)) hC hG cF5 hS.1 4 gX5_changes_X5_postAll rfl (by decide +kernel) ⟨by decide, by decide⟩ rfl hl.1 rfl (by simp [Value.category]) dX5_changes_24 ⟨Nat.le_of_ble_eq_true rfl, Nat.le_of_ble_eq_true rfl⟩ (fun v Y H locs hq hG => ?_)
  obtain ⟨rfl, rfl⟩ := hq
  have hB := bM_pa (i := i) (k := 3) (v := v) (c := 0) hB (by omega) (by omega) (by omega) (by omega) n (by omega)
  refine lv_istore_n (lv' := [(3, .int (nI (n - 1))), (0, .ref mb), (1, .int (nI i)), (2, .int (nI v))]) hx hb dX5_changes_27 rfl hl (by decide) rfl (fun ls hl => ?_)
  exact q_vret hC hG hr hlk (⟨rfl, rfl⟩) dX5_changes_28
