/-- how many nodes below j, not i, are known to have x entries -/
def m_hv (M : MM) (i x : Nat) : Nat → Nat
  | 0 => 0
  | j + 1 => m_hv M i x j + (if j = i then 0 else if M 10 (5 * i + j) < x then 0 else 1)
theorem m_hv_le (M : MM) (i x : Nat) : ∀ j, m_hv M i x j ≤ j := by
  intro j
  induction j with
  | zero => exact Nat.le_refl 0
  | succ j ih => unfold m_hv; split <;> (try split) <;> omega
/-- the loop of hears, from x down -/
def m_hr (n f : Nat) (M : MM) (i : Nat) : Nat → MM
  | 0 => M
  | x + 1 => if x + 1 ≤ M 4 i then M else if m_hv M i (x + 1) n < f then m_hr n f M i x else up2 M 4 i (x + 1)
def m_hea (n f : Nat) (M : MM) (i s v c : Nat) : Nat × MM :=
  if M 6 i = v then (if m_fst n M i = 0 then (0, M) else if M 5 i = 0 then (1, m_hr n f (up2 M 10 (5 * i + s) (m_gre (M 10 (5 * i + s)) c)) i (M 3 i)) else (0, M)) else (0, M)
theorem m_hr_le {n f : Nat} {M : MM} {i x : Nat} (h : x ≤ M 4 i) : m_hr n f M i x = M := by
  cases x with
  | zero => rfl
  | succ x => simp only [m_hr, h, ↓reduceIte]

abbrev rmX5_hears : Room := { frames := 1, cells := 0, slots := 0, locals := 21 }
set_option maxHeartbeats 4000000 in
set_option maxRecDepth 100000 in
theorem k_X5_hears (l : Launch) (D : va_G) (cA : Nat → ClassId) (A : Nat → Prop) {mb n f : Nat} {X : Mem} {M : MM} (hS : mS mb n f X) (hB : bM M) (i s0 v c0 : Nat) (hi : i < n) (hs : s0 < n) (hv : v < 2147483648) (hc0 : c0 < 2147483648) : mt l D cA A yX5_hears wsX5_hears rmX5_hears [.ref mb, .int (nI i), .int (nI s0), .int (nI v), .int (nI c0)] (sM mb X M) (fun w Y => w = some (.int (nI (m_hea n f M i s0 v c0).1)) ∧ Y = sM mb X (m_hea n f M i s0 v c0).2) := by
  refine q_start (by decide) rfl (Nat.le_of_ble_eq_true rfl) (fun p e s m args below meth c H locs hC hr hlk hnm hG ls hl => ?_)
  have hl : lv_has ls 8 [(0, .ref mb), (1, .int (nI i)), (2, .int (nI s0)), (3, .int (nI v)), (4, .int (nI c0))] := hl
  have hx := hC.1.1
  have hb := hC.1.2.1
  have hts := hC.1.2.2.2.2
  have i5 : ∀ w ∈ wsX50, w ∈ wsX5_hears := by decide +kernel
  have hnf := hS.2.2.2.2
  have k13 := hts (.fieldLink RX5 13 "ViewStampsModel" "many" "[I") (by decide +kernel)
  have k16 := hts (.fieldLink RX5 16 "ViewStampsModel" "sure" "[I") (by decide +kernel)
  have k19 := hts (.fieldLink RX5 19 "ViewStampsModel" "status" "[I") (by decide +kernel)
  have k22 := hts (.fieldLink RX5 22 "ViewStampsModel" "view" "[I") (by decide +kernel)
  have k35 := hts (.fieldLink RX5 35 "ViewStampsModel" "knows" "[I") (by decide +kernel)
  have k77 := hts (.fieldLink RX5 77 "ViewStampsModel" "n" "I") (by decide +kernel)
  have k81 := hts (.fieldLink RX5 81 "ViewStampsModel" "f" "I") (by decide +kernel)
  have loop : ∀ (d : Nat) (M1 : MM) (x : Nat) (H : Heap) (locs : List Loc) (ls : Array Slot), x < d → x < 2147483648 → bM M1 → (1, m_hr n f M1 i x) = m_hea n f M i s0 v c0 → gw D cA A (sM mb X M1) s.heap H locs → lv_has ls 8 [(0, .ref mb), (1, .int (nI i)), (5, .int (nI x))] → W p l e rmX5_hears s m args below meth c H locs 0 0 (MQ below (mQ D cA A (fun w Y => w = some (.int (nI (m_hea n f M i s0 v c0).1)) ∧ Y = sM mb X (m_hea n f M i s0 v c0).2)) args s rmX5_hears.cells rmX5_hears.slots A) (F0 m 62 ls []) := by
    intro d
    induction d with
    | zero => intro M1 x H locs ls hd; exact absurd hd (Nat.not_lt_zero _)
    | succ d ih =>
      intro M1 x H locs ls hd hx9 hB hT hG hl
      refine lv_iload hx hb dX5_hears_62 (lv_at hl 2 rfl) ?_
      refine lv_aload_n hx hb dX5_hears_64 rfl (lv_at hl 0 rfl) ?_
      refine q_mg hC hG hS i5 4 rfl k16 dX5_hears_65 ?_
      refine lv_iload_n hx hb dX5_hears_68 rfl (lv_at hl 1 rfl) ?_
      refine q_ml (N := 295) (w := M1 4 i) hC hG hS 4 rfl rfl rfl (by omega) rfl dX5_hears_69 ?_
      have b1 : M1 4 i < 2147483648 := by have := hB.1 4 i rfl; first | exact this | (simp [up2, m_cp, m_cpk] at this; exact this) | omega
      refine n_le (tgt := 149) hC dX5_hears_70 (by decide) (by omega) (by omega) (fun c70 => ?_) (fun c70 => ?_)
      · have c70n := Nat.not_lt.mpr c70
        refine n_iconst hC 1 dX5_hears_149 ?_
        exact q_zret (v := 1) hC hG hr hlk (by first | decide | omega) (⟨by rw [← hT], by rw [← hT, m_hr_le (by omega)]⟩) dX5_hears_150
      · have c70n := Nat.not_le.mpr c70
        refine n_iconst hC 0 dX5_hears_73 ?_
        refine lv_istore (lv' := [(6, .int (nI 0)), (0, .ref mb), (1, .int (nI i)), (5, .int (nI x))]) hx hb dX5_hears_74 hl (by decide) rfl (fun ls hl => ?_)
        refine n_iconst hC 0 dX5_hears_76 ?_
        refine lv_istore (lv' := [(7, .int (nI 0)), (6, .int (nI 0)), (0, .ref mb), (1, .int (nI i)), (5, .int (nI x))]) hx hb dX5_hears_77 hl (by decide) rfl (fun ls hl => ?_)
        have loop2 : ∀ (d : Nat) (k j : Nat) (H : Heap) (locs : List Loc) (ls : Array Slot), n - j < d → j ≤ n → k = m_hv M1 i x j → gw D cA A (sM mb X M1) s.heap H locs → lv_has ls 8 [(0, .ref mb), (1, .int (nI i)), (5, .int (nI x)), (6, .int (nI k)), (7, .int (nI j))] → W p l e rmX5_hears s m args below meth c H locs 0 0 (MQ below (mQ D cA A (fun w Y => w = some (.int (nI (m_hea n f M i s0 v c0).1)) ∧ Y = sM mb X (m_hea n f M i s0 v c0).2)) args s rmX5_hears.cells rmX5_hears.slots A) (F0 m 79 ls []) := by
          intro d
          induction d with
          | zero => intro k j H locs ls hd; exact absurd hd (Nat.not_lt_zero _)
          | succ d ih2 =>
            intro k j H locs ls hd hj hk hG hl
            have hk2 := m_hv_le M1 i x j
            refine lv_iload hx hb dX5_hears_79 (lv_at hl 4 rfl) ?_
            refine lv_aload_n hx hb dX5_hears_81 rfl (lv_at hl 0 rfl) ?_
            refine q_mn hC hG hS i5 k77 dX5_hears_82 ?_
            refine n_ge (tgt := 126) hC dX5_hears_85 (by decide) (by omega) (by omega) (fun c85 => ?_) (fun c85 => ?_)
            · have c85n := Nat.not_lt.mpr c85
              refine lv_iload hx hb dX5_hears_126 (lv_at hl 3 rfl) ?_
              refine lv_aload_n hx hb dX5_hears_128 rfl (lv_at hl 0 rfl) ?_
              refine q_mf hC hG hS i5 k81 dX5_hears_129 ?_
              refine n_lt (tgt := 143) hC dX5_hears_132 (by decide) (by omega) (by omega) (fun c132 => ?_) (fun c132 => ?_)
              · have c132n := Nat.not_le.mpr c132
                refine n_idec (k := 2) (lv' := [(5, .int (nI (x - 1))), (0, .ref mb), (1, .int (nI i)), (6, .int (nI k)), (7, .int (nI j))]) hC (by omega) dX5_hears_143 hl rfl (by decide) rfl (fun ls hl => ?_)
                refine lv_goto (tgt := 62) hx hb dX5_hears_146 (by decide) ?_
                exact ih M1 (x - 1) _ _ _ (by omega) (by omega) hB (by rw [← hT]; obtain ⟨y, rfl⟩ : ∃ y, x = y + 1 := ⟨x - 1, by omega⟩; rw [show j = n by omega] at hk; rw [hk] at c132; simp only [Nat.add_sub_cancel, m_hr, show ¬ (y + 1 ≤ M1 4 i) from by omega, c132, ↓reduceIte]) hG (lv_sub hl [1, 2, 0] rfl)
              · have c132n := Nat.not_lt.mpr c132
                refine lv_aload_n hx hb dX5_hears_135 rfl (lv_at hl 0 rfl) ?_
                refine q_mg hC hG hS i5 4 rfl k16 dX5_hears_136 ?_
                refine lv_iload_n hx hb dX5_hears_139 rfl (lv_at hl 1 rfl) ?_
                refine lv_iload hx hb dX5_hears_140 (lv_at hl 2 rfl) ?_
                refine q_ms (N := 295) hC hG hS 4 rfl rfl rfl (by omega) dX5_hears_142 (fun H locs hG => ?_)
                have hB := bM_up hB 4 i (v := x) (by omega)
                refine n_idec (k := 2) (lv' := [(5, .int (nI (x - 1))), (0, .ref mb), (1, .int (nI i)), (6, .int (nI k)), (7, .int (nI j))]) hC (by omega) dX5_hears_143 hl rfl (by decide) rfl (fun ls hl => ?_)
                refine lv_goto (tgt := 62) hx hb dX5_hears_146 (by decide) ?_
                exact ih _ (x - 1) _ _ _ (by omega) (by omega) hB (by rw [← hT, m_hr_le (by simp [up2])]; obtain ⟨y, rfl⟩ : ∃ y, x = y + 1 := ⟨x - 1, by omega⟩; rw [show j = n by omega] at hk; rw [hk] at c132; simp only [m_hr, show ¬ (y + 1 ≤ M1 4 i) from by omega, show ¬ (m_hv M1 i (y + 1) n < f) from by omega, ↓reduceIte]) hG (lv_sub hl [1, 2, 0] rfl)
            · have c85n := Nat.not_le.mpr c85
              refine lv_iload hx hb dX5_hears_88 (lv_at hl 3 rfl) ?_
              refine lv_iload hx hb dX5_hears_90 (lv_at hl 4 rfl) ?_
              refine lv_iload_n hx hb dX5_hears_92 rfl (lv_at hl 1 rfl) ?_
              refine n_eq (tgt := 116) hC dX5_hears_93 (by decide) (by omega) (by omega) (fun c93 => ?_) (fun c93 => ?_)
              · refine n_iconst hC 0 dX5_hears_116 ?_
                refine n_iadd hC dX5_hears_117 ?_
                refine lv_istore (lv' := [(6, .int (nI (k + 0))), (0, .ref mb), (1, .int (nI i)), (5, .int (nI x)), (7, .int (nI j))]) hx hb dX5_hears_118 hl (by decide) rfl (fun ls hl => ?_)
                refine n_iinc (n := 1) (k := 4) (lv' := [(7, .int (nI (j + 1))), (6, .int (nI (k + 0))), (0, .ref mb), (1, .int (nI i)), (5, .int (nI x))]) hC dX5_hears_120 hl rfl (by decide) rfl (fun ls hl => ?_)
                refine lv_goto (tgt := 79) hx hb dX5_hears_123 (by decide) ?_
                exact ih2 (k + 0) (j + 1) _ _ _ (by omega) (by omega) (by rw [m_hv, ← hk]; simp only [c93, ↓reduceIte]) hG (lv_sub hl [2, 3, 4, 1, 0] rfl)
              · refine lv_aload_n hx hb dX5_hears_96 rfl (lv_at hl 0 rfl) ?_
                refine q_mg hC hG hS i5 10 rfl k35 dX5_hears_97 ?_
                refine n_iconst hC 5 dX5_hears_100 ?_
                refine lv_iload_n hx hb dX5_hears_101 rfl (lv_at hl 1 rfl) ?_
                refine n_imul hC dX5_hears_102 ?_
                refine lv_iload hx hb dX5_hears_103 (lv_at hl 4 rfl) ?_
                refine n_iadd hC dX5_hears_105 ?_
                refine q_ml (N := 25) (w := M1 10 ((5 * i) + j)) hC hG hS 10 rfl rfl rfl (by omega) rfl dX5_hears_106 ?_
                have b2 : M1 10 ((5 * i) + j) < 2147483648 := by have := hB.1 10 ((5 * i) + j) rfl; first | exact this | (simp [up2, m_cp, m_cpk] at this; exact this) | omega
                refine lv_iload hx hb dX5_hears_107 (lv_at hl 2 rfl) ?_
                refine n_lt (tgt := 116) hC dX5_hears_109 (by decide) (by omega) (by omega) (fun c109 => ?_) (fun c109 => ?_)
                · have c109n := Nat.not_le.mpr c109
                  refine n_iconst hC 0 dX5_hears_116 ?_
                  refine n_iadd hC dX5_hears_117 ?_
                  refine lv_istore (lv' := [(6, .int (nI (k + 0))), (0, .ref mb), (1, .int (nI i)), (5, .int (nI x)), (7, .int (nI j))]) hx hb dX5_hears_118 hl (by decide) rfl (fun ls hl => ?_)
                  refine n_iinc (n := 1) (k := 4) (lv' := [(7, .int (nI (j + 1))), (6, .int (nI (k + 0))), (0, .ref mb), (1, .int (nI i)), (5, .int (nI x))]) hC dX5_hears_120 hl rfl (by decide) rfl (fun ls hl => ?_)
                  refine lv_goto (tgt := 79) hx hb dX5_hears_123 (by decide) ?_
                  exact ih2 (k + 0) (j + 1) _ _ _ (by omega) (by omega) (by rw [m_hv, ← hk]; simp only [c93, c109, c109n, ↓reduceIte]) hG (lv_sub hl [2, 3, 4, 1, 0] rfl)
                · have c109n := Nat.not_lt.mpr c109
                  refine n_iconst hC 1 dX5_hears_112 ?_
                  refine lv_goto (tgt := 117) hx hb dX5_hears_113 (by decide) ?_
                  refine n_iadd hC dX5_hears_117 ?_
                  refine lv_istore (lv' := [(6, .int (nI (k + 1))), (0, .ref mb), (1, .int (nI i)), (5, .int (nI x)), (7, .int (nI j))]) hx hb dX5_hears_118 hl (by decide) rfl (fun ls hl => ?_)
                  refine n_iinc (n := 1) (k := 4) (lv' := [(7, .int (nI (j + 1))), (6, .int (nI (k + 1))), (0, .ref mb), (1, .int (nI i)), (5, .int (nI x))]) hC dX5_hears_120 hl rfl (by decide) rfl (fun ls hl => ?_)
                  refine lv_goto (tgt := 79) hx hb dX5_hears_123 (by decide) ?_
                  exact ih2 (k + 1) (j + 1) _ _ _ (by omega) (by omega) (by rw [m_hv, ← hk]; simp only [c93, c109, c109n, ↓reduceIte]) hG (lv_sub hl [2, 3, 4, 1, 0] rfl)
        exact loop2 (n + 1) 0 0 _ _ _ (by omega) (by omega) rfl hG (lv_sub hl [2, 3, 4, 1, 0] rfl)
  refine lv_aload_n hx hb dX5_hears_0 rfl (lv_at hl 0 rfl) ?_
  refine q_mg hC hG hS i5 6 rfl k22 dX5_hears_1 ?_
  refine lv_iload_n hx hb dX5_hears_4 rfl (lv_at hl 1 rfl) ?_
  refine q_ml (N := 5) (w := M 6 i) hC hG hS 6 rfl rfl rfl (by omega) rfl dX5_hears_5 ?_
  have b3 : M 6 i < 2147483648 := by have := hB.1 6 i rfl; first | exact this | (simp [up2, m_cp, m_cpk] at this; exact this) | omega
  refine lv_iload_n hx hb dX5_hears_6 rfl (lv_at hl 3 rfl) ?_
  refine n_ne (tgt := 27) hC dX5_hears_7 (by decide) (by omega) (by omega) (fun c7 => ?_) (fun c7 => ?_)
  · refine n_iconst hC 0 dX5_hears_27 ?_
    exact q_zret (v := 0) hC hG hr hlk (by first | decide | omega) (⟨by simp only [m_hea, c7, ↓reduceIte], by simp only [m_hea, c7, ↓reduceIte]⟩) dX5_hears_28
  · refine lv_aload_n hx hb dX5_hears_10 rfl (lv_at hl 0 rfl) ?_
    refine lv_iload_n hx hb dX5_hears_11 rfl (lv_at hl 1 rfl) ?_
    refine q_callV (rest := []) (k_X5_isFirst l D cA A hS hB i (by omega)) hC hG cF5 hS.1 1 gX5_hears_X5_isFirst rfl (by decide +kernel) ⟨by decide, by decide⟩ rfl hl.1 rfl (by simp [Value.category]) dX5_hears_12 ⟨Nat.le_of_ble_eq_true rfl, Nat.le_of_ble_eq_true rfl⟩ (fun v Y H locs hq hG => ?_)
    obtain ⟨rfl, rfl⟩ := hq
    have q12 := m_fst_le n M i
    refine n_ifeq (tgt := 27) hC dX5_hears_15 (by decide) (by omega) (fun c15 => ?_) (fun c15 => ?_)
    · refine n_iconst hC 0 dX5_hears_27 ?_
      exact q_zret (v := 0) hC hG hr hlk (by first | decide | omega) (⟨by simp only [m_hea, c7, c15, ↓reduceIte], by simp only [m_hea, c7, c15, ↓reduceIte]⟩) dX5_hears_28
    · refine lv_aload_n hx hb dX5_hears_18 rfl (lv_at hl 0 rfl) ?_
      refine q_mg hC hG hS i5 5 rfl k19 dX5_hears_19 ?_
      refine lv_iload_n hx hb dX5_hears_22 rfl (lv_at hl 1 rfl) ?_
      refine q_ml (N := 5) (w := M 5 i) hC hG hS 5 rfl rfl rfl (by omega) rfl dX5_hears_23 ?_
      have b4 : M 5 i < 2147483648 := by have := hB.1 5 i rfl; first | exact this | (simp [up2, m_cp, m_cpk] at this; exact this) | omega
      refine n_ifeq (tgt := 29) hC dX5_hears_24 (by decide) (by omega) (fun c24 => ?_) (fun c24 => ?_)
      · refine lv_aload_n hx hb dX5_hears_29 rfl (lv_at hl 0 rfl) ?_
        refine q_mg hC hG hS i5 10 rfl k35 dX5_hears_30 ?_
        refine n_iconst hC 5 dX5_hears_33 ?_
        refine lv_iload_n hx hb dX5_hears_34 rfl (lv_at hl 1 rfl) ?_
        refine n_imul hC dX5_hears_35 ?_
        refine lv_iload_n hx hb dX5_hears_36 rfl (lv_at hl 2 rfl) ?_
        refine n_iadd hC dX5_hears_37 ?_
        refine lv_aload_n hx hb dX5_hears_38 rfl (lv_at hl 0 rfl) ?_
        refine q_mg hC hG hS i5 10 rfl k35 dX5_hears_39 ?_
        refine n_iconst hC 5 dX5_hears_42 ?_
        refine lv_iload_n hx hb dX5_hears_43 rfl (lv_at hl 1 rfl) ?_
        refine n_imul hC dX5_hears_44 ?_
        refine lv_iload_n hx hb dX5_hears_45 rfl (lv_at hl 2 rfl) ?_
        refine n_iadd hC dX5_hears_46 ?_
        refine q_ml (N := 25) (w := M 10 ((5 * i) + s0)) hC hG hS 10 rfl rfl rfl (by omega) rfl dX5_hears_47 ?_
        have b5 : M 10 ((5 * i) + s0) < 2147483648 := by have := hB.1 10 ((5 * i) + s0) rfl; first | exact this | (simp [up2, m_cp, m_cpk] at this; exact this) | omega
        refine lv_iload hx hb dX5_hears_48 (lv_at hl 4 rfl) ?_
        refine q_callS (rest := [.int (nI ((5 * i) + s0)), .ref (mb + ao 10)]) (k_X5_greater l D cA A _ (M 10 ((5 * i) + s0)) c0 (by omega) (by omega)) hC hG 2 gX5_hears_X5_greater rfl (by decide +kernel) ⟨by decide, by decide⟩ rfl hl.1 rfl (by simp [Value.category]) dX5_hears_50 ⟨Nat.le_of_ble_eq_true rfl, Nat.le_of_ble_eq_true rfl⟩ (fun v Y H locs hq hG => ?_)
        obtain ⟨rfl, rfl⟩ := hq
        have q50 : m_gre (M 10 ((5 * i) + s0)) c0 < 2147483648 := m_gre_le (by omega) (by omega)
        refine q_ms (N := 25) hC hG hS 10 rfl rfl rfl (by omega) dX5_hears_53 (fun H locs hG => ?_)
        have hB := bM_up hB 10 ((5 * i) + s0) (v := m_gre (M 10 ((5 * i) + s0)) c0) (by omega)
        refine lv_aload_n hx hb dX5_hears_54 rfl (lv_at hl 0 rfl) ?_
        refine q_mg hC hG hS i5 3 rfl k13 dX5_hears_55 ?_
        refine lv_iload_n hx hb dX5_hears_58 rfl (lv_at hl 1 rfl) ?_
        refine q_ml (N := 295) (w := M 3 i) hC hG hS 3 rfl rfl rfl (by omega) (by simp [up2, m_cp, m_cpk]) dX5_hears_59 ?_
        have b6 : M 3 i < 2147483648 := by have := hB.1 3 i rfl; first | exact this | (simp [up2, m_cp, m_cpk] at this; exact this) | omega
        refine lv_istore (lv' := [(5, .int (nI (M 3 i))), (0, .ref mb), (1, .int (nI i)), (2, .int (nI s0)), (3, .int (nI v)), (4, .int (nI c0))]) hx hb dX5_hears_60 hl (by decide) rfl (fun ls hl => ?_)
        exact loop (M 3 i + 1) _ (M 3 i) _ _ _ (by omega) (by omega) hB (by simp only [m_hea, c7, c15, c24, ↓reduceIte]) hG (lv_sub hl [1, 2, 0] rfl)
      · refine n_iconst hC 0 dX5_hears_27 ?_
        exact q_zret (v := 0) hC hG hr hlk (by first | decide | omega) (⟨by simp only [m_hea, c7, c15, c24, ↓reduceIte], by simp only [m_hea, c7, c15, c24, ↓reduceIte]⟩) dX5_hears_28

theorem bM_hr {n f : Nat} {M : MM} (h : bM M) (i : Nat) : ∀ x, x < 2147483648 → bM (m_hr n f M i x) := by
  intro x
  induction x with
  | zero => intro _; exact h
  | succ x ih =>
    intro hx
    unfold m_hr
    split
    · exact h
    · split
      · exact ih (by omega)
      · exact bM_up h 4 i hx
theorem bM_hea {n f : Nat} {M : MM} (h : bM M) {i s v c : Nat} (hc : c < 2147483648) : bM (m_hea n f M i s v c).2 := by
  unfold m_hea
  split
  · split
    · exact h
    · split
      · exact bM_hr (bM_up h 10 _ (m_gre_le (h.1 10 _ rfl) hc)) i _ (h.1 3 i rfl)
      · exact h
  · exact h
theorem m_hea_le (n f : Nat) (M : MM) (i s v c : Nat) : (m_hea n f M i s v c).1 ≤ 1 := by
  unfold m_hea
  split <;> (try split) <;> (try split)
  all_goals first | exact Nat.zero_le 1 | exact Nat.le_refl 1
theorem bM_pre {n : Nat} {M : MM} (h : bM M) {i g v : Nat} (hi : i < 2147483648) (hn : 0 < n) (hv : v < 2147483648) : bM (m_pre n M i g v).2 := by
  have h3 := h.1 3 i rfl
  have h3' := h.1 3 g rfl
  have ha := bM_hav (n := n) (g := g) h hi hn hv
  unfold m_pre
  split
  · exact ha
  · split
    · exact ha
    · split
      · split
        · exact bM_pok (bM_up (bM_cp h g i) 4 i (Nat.lt_of_le_of_lt (m_les_le _ _).2 h3')) hi hn
        · exact bM_pok (bM_up h 4 i (Nat.lt_of_le_of_lt (m_les_le _ _).2 h3)) hi hn
      · exact h
theorem m_pre_le (n : Nat) (M : MM) (i g v : Nat) : (m_pre n M i g v).1 ≤ 1 := by
  unfold m_pre
  split <;> (try split) <;> (try split) <;> (try split)
  all_goals first | exact Nat.zero_le 1 | exact Nat.le_refl 1

/-- the best vote among those of the nodes below j, and the greatest sure -/
def m_bst (M : MM) (i : Nat) : Nat → Option Nat
  | 0 => none
  | j + 1 => if M 12 (5 * i + j) = 0 then m_bst M i j else match m_bst M i j with
    | none => some j
    | some b => if M 13 (5 * i + b) < M 13 (5 * i + j) then some j else if M 13 (5 * i + j) = M 13 (5 * i + b) ∧ M 3 (5 + 5 * i + b) < M 3 (5 + 5 * i + j) then some j else some b
def m_mst (M : MM) (i : Nat) : Nat → Nat
  | 0 => 0
  | j + 1 => if M 12 (5 * i + j) = 0 then m_mst M i j else m_gre (m_mst M i j) (M 4 (5 + 5 * i + j))
def bI (o : Option Nat) : Int32 := match o with
  | none => -1
  | some b => nI b
theorem m_bst_lt (M : MM) (i : Nat) : ∀ j b, m_bst M i j = some b → b < j := by
  intro j
  induction j with
  | zero => intro b h; cases h
  | succ j ih =>
    intro b h
    unfold m_bst at h
    split at h
    · have := ih b h; omega
    · split at h
      · cases h; omega
      · rename_i b' hb'
        have := ih b' hb'
        split at h
        · cases h; omega
        · split at h
          · cases h; omega
          · cases h; omega
theorem m_bst_some (M : MM) (i : Nat) : ∀ j, 0 < m_cnt M 12 (5 * i) j → ∃ b, b < j ∧ m_bst M i j = some b := by
  intro j
  induction j with
  | zero => intro h; exact absurd h (Nat.lt_irrefl 0)
  | succ j ih =>
    intro h
    have key : ∃ b, m_bst M i (j + 1) = some b := by
      unfold m_bst
      unfold m_cnt at h
      split
      · rename_i hz
        rw [if_pos hz] at h
        obtain ⟨b, -, hb⟩ := ih h
        exact ⟨b, hb⟩
      · split
        · exact ⟨_, rfl⟩
        · split
          · exact ⟨_, rfl⟩
          · split <;> exact ⟨_, rfl⟩
    obtain ⟨b, hb⟩ := key
    exact ⟨b, m_bst_lt M i _ b hb, hb⟩
theorem m_mst_lt {M : MM} (h : bM M) (i : Nat) : ∀ j, m_mst M i j < 2147483648 := by
  intro j
  induction j with
  | zero => exact Nat.zero_lt_succ _
  | succ j ih =>
    unfold m_mst
    split
    · exact ih
    · exact m_gre_le ih (h.1 4 _ rfl)
def m_kz (M : MM) (i k : Nat) : MM := fun x y => if x = 10 ∧ 5 * i ≤ y ∧ y < 5 * i + k then 0 else M x y
theorem m_kz_s (M : MM) (i k : Nat) : up2 (m_kz M i k) 10 (5 * i + k) 0 = m_kz M i (k + 1) := by
  funext x y
  unfold up2 m_kz
  by_cases h1 : x = 10
  · subst h1
    by_cases hy : y = 5 * i + k
    · subst hy; simp
    · have : (5 * i ≤ y ∧ y < 5 * i + k) ↔ (5 * i ≤ y ∧ y < 5 * i + (k + 1)) := by omega
      simp [hy, this]
  · simp [h1]
theorem m_kz_0 (M : MM) (i : Nat) : m_kz M i 0 = M := by
  funext x y
  unfold m_kz
  rw [if_neg (by omega)]
theorem bM_kz {M : MM} (h : bM M) (i k : Nat) : bM (m_kz M i k) := by
  refine ⟨fun x y hx => ?_, ?_⟩
  · unfold m_kz
    split
    · decide
    · exact h.1 x y hx
  · have : m_kz M i k 17 0 = M 17 0 := by simp [m_kz]
    rw [this]; exact h.2
/-- the election won with the vote of b -/
def m_z (n : Nat) (M : MM) (i b : Nat) : MM := up2 (up2 (up2 (m_cp M (5 + 5 * i + b) i) 4 i (m_les (m_mst M i n) (M 3 (5 + 5 * i + b)))) 5 i 0) 7 i (M 6 i)
def m_fin (n : Nat) (Z : MM) (i : Nat) : MM := m_pa (m_kz Z i 5) i 5 (m_kz Z i 5 6 i) 0 n
def m_tv2 (n f : Nat) (M : MM) (i : Nat) : Nat × MM := if m_cnt M 12 (5 * i) n < f + 1 then (1, M) else if M 12 (5 * i + i) = 0 then (1, M) else (1, m_fin n (m_z n M i ((m_bst M i n).getD 0)) i)
def m_tv (n f : Nat) (M : MM) (i s g c : Nat) : Nat × MM :=
  if M 5 i = 1 then (if M 12 (5 * i + s) = 0 then m_tv2 n f (m_cp (up2 (up2 M 12 (5 * i + s) 1) 13 (5 * i + s) c) g (5 + 5 * i + s)) i else (0, M)) else (0, M)
theorem bM_fin {n : Nat} {Z : MM} (h : bM Z) {i : Nat} (hi : i < 2147483648) (hn : n < 2147483648) : bM (m_fin n Z i) :=
  bM_pa (bM_kz h i 5) hi (by decide) ((bM_kz h i 5).1 6 i rfl) (by decide) n hn
theorem bM_z {n : Nat} {M : MM} (h : bM M) {i b : Nat} : bM (m_z n M i b) :=
  bM_up (bM_up (bM_up (bM_cp h _ i) 4 i (Nat.lt_of_le_of_lt (m_les_le _ _).2 (h.1 3 _ rfl))) 5 i (by decide)) 7 i (h.1 6 i rfl)
theorem bM_tv {n f : Nat} {M : MM} (h : bM M) {i s g c : Nat} (hi : i < 2147483648) (hn : n < 2147483648) (hc : c < 2147483648) : bM (m_tv n f M i s g c).2 := by
  unfold m_tv
  split
  · split
    · have h1 := bM_cp (bM_up (bM_up h 12 (5 * i + s) (v := 1) (by decide)) 13 (5 * i + s) hc) g (5 + 5 * i + s)
      unfold m_tv2
      split
      · exact h1
      · split
        · exact h1
        · exact bM_fin (bM_z h1) hi hn
    · exact h
  · exact h
theorem m_tv_le (n f : Nat) (M : MM) (i s g c : Nat) : (m_tv n f M i s g c).1 ≤ 1 := by
  unfold m_tv m_tv2
  split <;> (try split) <;> (try split) <;> (try split)
  all_goals first | exact Nat.zero_le 1 | exact Nat.le_refl 1

abbrev rmX5_takesVote : Room := { frames := 3, cells := 0, slots := 0, locals := 73 }
set_option maxHeartbeats 4000000 in
set_option maxRecDepth 100000 in
theorem k_X5_takesVote (l : Launch) (D : va_G) (cA : Nat → ClassId) (A : Nat → Prop) {mb n f : Nat} {X : Mem} {M : MM} (hS : mS mb n f X) (hB : bM M) (i s0 g0 c0 : Nat) (hi : i < n) (hs : s0 < n) (hg0 : g0 < 295) (hc0 : c0 < 2147483648) : mt l D cA A yX5_takesVote wsX5_takesVote rmX5_takesVote [.ref mb, .int (nI i), .int (nI s0), .int (nI g0), .int (nI c0)] (sM mb X M) (fun w Y => w = some (.int (nI (m_tv n f M i s0 g0 c0).1)) ∧ Y = sM mb X (m_tv n f M i s0 g0 c0).2) := by
  refine q_start (by decide) rfl (Nat.le_of_ble_eq_true rfl) (fun p e s m args below meth c H locs hC hr hlk hnm hG ls hl => ?_)
  have hl : lv_has ls 10 [(0, .ref mb), (1, .int (nI i)), (2, .int (nI s0)), (3, .int (nI g0)), (4, .int (nI c0))] := hl
  have hx := hC.1.1
  have hb := hC.1.2.1
  have hts := hC.1.2.2.2.2
  have i5 : ∀ w ∈ wsX50, w ∈ wsX5_takesVote := by decide +kernel
  have hnf := hS.2.2.2.2
  have k13 := hts (.fieldLink RX5 13 "ViewStampsModel" "many" "[I") (by decide +kernel)
  have k16 := hts (.fieldLink RX5 16 "ViewStampsModel" "sure" "[I") (by decide +kernel)
  have k19 := hts (.fieldLink RX5 19 "ViewStampsModel" "status" "[I") (by decide +kernel)
  have k22 := hts (.fieldLink RX5 22 "ViewStampsModel" "view" "[I") (by decide +kernel)
  have k25 := hts (.fieldLink RX5 25 "ViewStampsModel" "lastView" "[I") (by decide +kernel)
  have k35 := hts (.fieldLink RX5 35 "ViewStampsModel" "knows" "[I") (by decide +kernel)
  have k41 := hts (.fieldLink RX5 41 "ViewStampsModel" "hasVote" "[Z") (by decide +kernel)
  have k44 := hts (.fieldLink RX5 44 "ViewStampsModel" "voteCount" "[I") (by decide +kernel)
  have k77 := hts (.fieldLink RX5 77 "ViewStampsModel" "n" "I") (by decide +kernel)
  have k81 := hts (.fieldLink RX5 81 "ViewStampsModel" "f" "I") (by decide +kernel)
  have loopz : ∀ (d : Nat) (Z : MM) (k : Nat) (H : Heap) (locs : List Loc) (ls : Array Slot), 5 - k < d → k ≤ 5 → bM Z → (1, m_fin n Z i) = m_tv n f M i s0 g0 c0 → gw D cA A (sM mb X (m_kz Z i k)) s.heap H locs → lv_has ls 10 [(0, .ref mb), (1, .int (nI i)), (7, .int (nI k))] → W p l e rmX5_takesVote s m args below meth c H locs 0 0 (MQ below (mQ D cA A (fun w Y => w = some (.int (nI (m_tv n f M i s0 g0 c0).1)) ∧ Y = sM mb X (m_tv n f M i s0 g0 c0).2)) args s rmX5_takesVote.cells rmX5_takesVote.slots A) (F0 m 323 ls []) := by
    intro d
    induction d with
    | zero => intro Z k H locs ls hd; exact absurd hd (Nat.not_lt_zero _)
    | succ d ih =>
      intro Z k H locs ls hd hk hBz hT hG hl
      have hB := bM_kz hBz i k
      refine lv_iload hx hb dX5_takesVote_323 (lv_at hl 2 rfl) ?_
      refine n_iconst hC 5 dX5_takesVote_325 ?_
      refine n_ge (tgt := 347) hC dX5_takesVote_326 (by decide) (by omega) (by omega) (fun c326 => ?_) (fun c326 => ?_)
      · have c326n := Nat.not_lt.mpr c326
        have hk5 : k = 5 := by omega
        subst hk5
        refine lv_aload_n hx hb dX5_takesVote_347 rfl (lv_at hl 0 rfl) ?_
        refine lv_iload_n hx hb dX5_takesVote_348 rfl (lv_at hl 1 rfl) ?_
        refine n_iconst hC 5 dX5_takesVote_349 ?_
        refine lv_aload_n hx hb dX5_takesVote_350 rfl (lv_at hl 0 rfl) ?_
        refine q_mg hC hG hS i5 6 rfl k22 dX5_takesVote_351 ?_
        refine lv_iload_n hx hb dX5_takesVote_354 rfl (lv_at hl 1 rfl) ?_
        refine q_ml (N := 5) (w := (m_kz Z i 5) 6 i) hC hG hS 6 rfl rfl rfl (by omega) rfl dX5_takesVote_355 ?_
        have b1 : (m_kz Z i 5) 6 i < 2147483648 := by have := hB.1 6 i rfl; first | exact this | (simp [up2, m_cp, m_cpk] at this; exact this) | omega
        refine n_iconst hC 0 dX5_takesVote_356 ?_
        refine q_callV (rest := []) (k_X5_postAll l D cA A hS hB i 5 ((m_kz Z i 5) 6 i) 0 (by omega) (by omega) (by omega) (by omega)) hC hG cF5 hS.1 4 gX5_takesVote_X5_postAll rfl (by decide +kernel) ⟨by decide, by decide⟩ rfl hl.1 rfl (by simp [Value.category]) dX5_takesVote_357 ⟨Nat.le_of_ble_eq_true rfl, Nat.le_of_ble_eq_true rfl⟩ (fun v Y H locs hq hG => ?_)
        obtain ⟨rfl, rfl⟩ := hq
        have hB := bM_pa (i := i) (k := 5) (v := (m_kz Z i 5) 6 i) (c := 0) hB (by omega) (by omega) (by omega) (by omega) n (by omega)
        refine lv_istore (lv' := [(7, .int (nI (n - 1))), (0, .ref mb), (1, .int (nI i))]) hx hb dX5_takesVote_360 hl (by decide) rfl (fun ls hl => ?_)
        refine n_iconst hC 1 dX5_takesVote_362 ?_
        exact q_zret (v := 1) hC hG hr hlk (by first | decide | omega) (⟨by rw [← hT], by rw [← hT]; rfl⟩) dX5_takesVote_363
      · have c326n := Nat.not_le.mpr c326
        refine lv_aload_n hx hb dX5_takesVote_329 rfl (lv_at hl 0 rfl) ?_
        refine q_mg hC hG hS i5 10 rfl k35 dX5_takesVote_330 ?_
        refine n_iconst hC 5 dX5_takesVote_333 ?_
        refine lv_iload_n hx hb dX5_takesVote_334 rfl (lv_at hl 1 rfl) ?_
        refine n_imul hC dX5_takesVote_335 ?_
        refine lv_iload hx hb dX5_takesVote_336 (lv_at hl 2 rfl) ?_
        refine n_iadd hC dX5_takesVote_338 ?_
        refine n_iconst hC 0 dX5_takesVote_339 ?_
        refine q_ms (N := 25) hC hG hS 10 rfl rfl rfl (by omega) dX5_takesVote_340 (fun H locs hG => ?_)
        have hB := bM_up hB 10 ((5 * i) + k) (v := 0) (by omega)
        refine n_iinc (n := 1) (k := 2) (lv' := [(7, .int (nI (k + 1))), (0, .ref mb), (1, .int (nI i))]) hC dX5_takesVote_341 hl rfl (by decide) rfl (fun ls hl => ?_)
        refine lv_goto (tgt := 323) hx hb dX5_takesVote_344 (by decide) ?_
        have hG : gw D cA A (sM mb X (up2 (m_kz Z i k) 10 (5 * i + k) 0)) _ _ _ := hG
        rw [m_kz_s] at hG
        exact ih Z (k + 1) _ _ _ (by omega) (by omega) hBz hT hG (lv_sub hl [1, 2, 0] rfl)
  have loopb : ∀ (d : Nat) (M1 : MM) (bst : Int32) (mst j : Nat) (H : Heap) (locs : List Loc) (ls : Array Slot), n - j < d → j ≤ n → bM M1 → 0 < m_cnt M1 12 (5 * i) n → bst = bI (m_bst M1 i j) → mst = m_mst M1 i j → (1, m_fin n (m_z n M1 i ((m_bst M1 i n).getD 0)) i) = m_tv n f M i s0 g0 c0 → gw D cA A (sM mb X M1) s.heap H locs → lv_has ls 10 [(0, .ref mb), (1, .int (nI i)), (5, .int bst), (6, .int (nI mst)), (7, .int (nI j))] → W p l e rmX5_takesVote s m args below meth c H locs 0 0 (MQ below (mQ D cA A (fun w Y => w = some (.int (nI (m_tv n f M i s0 g0 c0).1)) ∧ Y = sM mb X (m_tv n f M i s0 g0 c0).2)) args s rmX5_takesVote.cells rmX5_takesVote.slots A) (F0 m 98 ls []) := by
    intro d
    induction d with
    | zero => intro M1 bst mst j H locs ls hd; exact absurd hd (Nat.not_lt_zero _)
    | succ d ih =>
      intro M1 bst mst j H locs ls hd hj hB hcn hbs hms hT hG hl
      have hml : mst < 2147483648 := by rw [hms]; exact m_mst_lt hB i j
      have hB0 := hB
      refine lv_iload hx hb dX5_takesVote_98 (lv_at hl 4 rfl) ?_
      refine lv_aload_n hx hb dX5_takesVote_100 rfl (lv_at hl 0 rfl) ?_
      refine q_mn hC hG hS i5 k77 dX5_takesVote_101 ?_
      refine n_ge (tgt := 271) hC dX5_takesVote_104 (by decide) (by omega) (by omega) (fun c104 => ?_) (fun c104 => ?_)
      · have c104n := Nat.not_lt.mpr c104
        have hjn : n = j := by omega
        subst hjn
        obtain ⟨b, hbn, hob⟩ := m_bst_some M1 i n hcn
        have hl : lv_has ls 10 [(0, .ref mb), (1, .int (nI i)), (5, .int (nI b)), (6, .int (nI mst)), (7, .int (nI n))] := by rw [hbs, hob] at hl; exact hl
        refine lv_aload_n hx hb dX5_takesVote_271 rfl (lv_at hl 0 rfl) ?_
        refine n_iconst hC 5 dX5_takesVote_272 ?_
        refine n_iconst hC 5 dX5_takesVote_273 ?_
        refine lv_iload_n hx hb dX5_takesVote_274 rfl (lv_at hl 1 rfl) ?_
        refine n_imul hC dX5_takesVote_275 ?_
        refine n_iadd hC dX5_takesVote_276 ?_
        refine lv_iload hx hb dX5_takesVote_277 (lv_at hl 2 rfl) ?_
        refine n_iadd hC dX5_takesVote_279 ?_
        refine lv_iload_n hx hb dX5_takesVote_280 rfl (lv_at hl 1 rfl) ?_
        refine q_callV (rest := []) (k_X5_copyLog l D cA A hS hB ((5 + (5 * i)) + b) i (by omega) (by omega)) hC hG cF5 hS.1 2 gX5_takesVote_X5_copyLog rfl (by decide +kernel) ⟨by decide, by decide⟩ rfl hl.1 rfl (by simp [Value.category]) dX5_takesVote_281 ⟨Nat.le_of_ble_eq_true rfl, Nat.le_of_ble_eq_true rfl⟩ (fun v Y H locs hq hG => ?_)
        obtain ⟨rfl, rfl⟩ := hq
        have hB := bM_cp hB ((5 + (5 * i)) + b) i
        refine lv_aload_n hx hb dX5_takesVote_284 rfl (lv_at hl 0 rfl) ?_
        refine q_mg hC hG hS i5 4 rfl k16 dX5_takesVote_285 ?_
        refine lv_iload_n hx hb dX5_takesVote_288 rfl (lv_at hl 1 rfl) ?_
        refine lv_iload hx hb dX5_takesVote_289 (lv_at hl 3 rfl) ?_
        refine lv_aload_n hx hb dX5_takesVote_291 rfl (lv_at hl 0 rfl) ?_
        refine q_mg hC hG hS i5 3 rfl k13 dX5_takesVote_292 ?_
        refine lv_iload_n hx hb dX5_takesVote_295 rfl (lv_at hl 1 rfl) ?_
        refine q_ml (N := 295) (w := M1 3 ((5 + (5 * i)) + b)) hC hG hS 3 rfl rfl rfl (by omega) (by simp [up2, m_cp, m_cpk]) dX5_takesVote_296 ?_
        have b2 : M1 3 ((5 + (5 * i)) + b) < 2147483648 := by have := hB.1 3 i rfl; first | exact this | (simp [up2, m_cp, m_cpk] at this; exact this) | omega
        refine q_callS (rest := [.int (nI i), .ref (mb + ao 4)]) (k_X5_lesser l D cA A _ mst (M1 3 ((5 + (5 * i)) + b)) (by omega) (by omega)) hC hG 2 gX5_takesVote_X5_lesser rfl (by decide +kernel) ⟨by decide, by decide⟩ rfl hl.1 rfl (by simp [Value.category]) dX5_takesVote_297 ⟨Nat.le_of_ble_eq_true rfl, Nat.le_of_ble_eq_true rfl⟩ (fun v Y H locs hq hG => ?_)
        obtain ⟨rfl, rfl⟩ := hq
        have q297 := m_les_le mst (M1 3 ((5 + (5 * i)) + b))
        refine q_ms (N := 295) hC hG hS 4 rfl rfl rfl (by omega) dX5_takesVote_300 (fun H locs hG => ?_)
        have hB := bM_up hB 4 i (v := m_les mst (M1 3 ((5 + (5 * i)) + b))) (by omega)
        refine lv_aload_n hx hb dX5_takesVote_301 rfl (lv_at hl 0 rfl) ?_
        refine q_mg hC hG hS i5 5 rfl k19 dX5_takesVote_302 ?_
        refine lv_iload_n hx hb dX5_takesVote_305 rfl (lv_at hl 1 rfl) ?_
        refine n_iconst hC 0 dX5_takesVote_306 ?_
        refine q_ms (N := 5) hC hG hS 5 rfl rfl rfl (by omega) dX5_takesVote_307 (fun H locs hG => ?_)
        have hB := bM_up hB 5 i (v := 0) (by omega)
        refine lv_aload_n hx hb dX5_takesVote_308 rfl (lv_at hl 0 rfl) ?_
        refine q_mg hC hG hS i5 7 rfl k25 dX5_takesVote_309 ?_
        refine lv_iload_n hx hb dX5_takesVote_312 rfl (lv_at hl 1 rfl) ?_
        refine lv_aload_n hx hb dX5_takesVote_313 rfl (lv_at hl 0 rfl) ?_
        refine q_mg hC hG hS i5 6 rfl k22 dX5_takesVote_314 ?_
        refine lv_iload_n hx hb dX5_takesVote_317 rfl (lv_at hl 1 rfl) ?_
        refine q_ml (N := 5) (w := M1 6 i) hC hG hS 6 rfl rfl rfl (by omega) (by simp [up2, m_cp, m_cpk]) dX5_takesVote_318 ?_
        have b3 : M1 6 i < 2147483648 := by have := hB.1 6 i rfl; first | exact this | (simp [up2, m_cp, m_cpk] at this; exact this) | omega
        refine q_ms (N := 5) hC hG hS 7 rfl rfl rfl (by omega) dX5_takesVote_319 (fun H locs hG => ?_)
        have hB := bM_up hB 7 i (v := M1 6 i) (by omega)
        refine n_iconst hC 0 dX5_takesVote_320 ?_
        refine lv_istore (lv' := [(7, .int (nI 0)), (0, .ref mb), (1, .int (nI i)), (5, .int (nI b)), (6, .int (nI mst))]) hx hb dX5_takesVote_321 hl (by decide) rfl (fun ls hl => ?_)
        have hZ : gw D cA A (sM mb X (m_kz (m_z n M1 i b) i 0)) s.heap H locs := by rw [m_kz_0, m_z, ← hms]; exact hG
        exact loopz 6 (m_z n M1 i b) 0 _ _ _ (by omega) (by omega) (bM_z hB0) (by rw [← hT, hob]; rfl) hZ (lv_sub hl [1, 2, 0] rfl)
      · have c104n := Nat.not_le.mpr c104
        rcases hob : m_bst M1 i j with _ | b
        · have hl : lv_has ls 10 [(0, .ref mb), (1, .int (nI i)), (5, .int (-1)), (6, .int (nI mst)), (7, .int (nI j))] := by rw [hbs, hob] at hl; exact hl
          refine lv_aload_n hx hb dX5_takesVote_107 rfl (lv_at hl 0 rfl) ?_
          refine q_mg hC hG hS i5 12 rfl k41 dX5_takesVote_108 ?_
          refine n_iconst hC 5 dX5_takesVote_111 ?_
          refine lv_iload_n hx hb dX5_takesVote_112 rfl (lv_at hl 1 rfl) ?_
          refine n_imul hC dX5_takesVote_113 ?_
          refine lv_iload hx hb dX5_takesVote_114 (lv_at hl 4 rfl) ?_
          refine n_iadd hC dX5_takesVote_116 ?_
          refine q_mlz (N := 25) (w := M1 12 ((5 * i) + j)) hC hG hS 12 rfl rfl rfl (by omega) rfl dX5_takesVote_117 ?_
          have b4 : M1 12 ((5 * i) + j) < 2147483648 := by have := hB.1 12 ((5 * i) + j) rfl; first | exact this | (simp [up2, m_cp, m_cpk] at this; exact this) | omega
          refine n_ifeq (tgt := 265) hC dX5_takesVote_118 (by decide) (by omega) (fun c118 => ?_) (fun c118 => ?_)
          · refine n_iinc (n := 1) (k := 4) (lv' := [(7, .int (nI (j + 1))), (0, .ref mb), (1, .int (nI i)), (5, .int (-1)), (6, .int (nI mst))]) hC dX5_takesVote_265 hl rfl (by decide) rfl (fun ls hl => ?_)
            refine lv_goto (tgt := 98) hx hb dX5_takesVote_268 (by decide) ?_
            exact ih M1 (-1) mst (j + 1) _ _ _ (by omega) (by omega) hB hcn (by simp only [m_bst, hob, c118, ↓reduceIte]; rfl) (by rw [m_mst, ← hms]; simp only [c118, ↓reduceIte]) hT hG (lv_sub hl [1, 2, 3, 4, 0] rfl)
          · refine lv_iload hx hb dX5_takesVote_121 (lv_at hl 3 rfl) ?_
            refine lv_aload_n hx hb dX5_takesVote_123 rfl (lv_at hl 0 rfl) ?_
            refine q_mg hC hG hS i5 4 rfl k16 dX5_takesVote_124 ?_
            refine n_iconst hC 5 dX5_takesVote_127 ?_
            refine n_iconst hC 5 dX5_takesVote_128 ?_
            refine lv_iload_n hx hb dX5_takesVote_129 rfl (lv_at hl 1 rfl) ?_
            refine n_imul hC dX5_takesVote_130 ?_
            refine n_iadd hC dX5_takesVote_131 ?_
            refine lv_iload hx hb dX5_takesVote_132 (lv_at hl 4 rfl) ?_
            refine n_iadd hC dX5_takesVote_134 ?_
            refine q_ml (N := 295) (w := M1 4 ((5 + (5 * i)) + j)) hC hG hS 4 rfl rfl rfl (by omega) rfl dX5_takesVote_135 ?_
            have b5 : M1 4 ((5 + (5 * i)) + j) < 2147483648 := by have := hB.1 4 ((5 + (5 * i)) + j) rfl; first | exact this | (simp [up2, m_cp, m_cpk] at this; exact this) | omega
            refine q_callS (rest := []) (k_X5_greater l D cA A _ mst (M1 4 ((5 + (5 * i)) + j)) (by omega) (by omega)) hC hG 2 gX5_takesVote_X5_greater rfl (by decide +kernel) ⟨by decide, by decide⟩ rfl hl.1 rfl (by simp [Value.category]) dX5_takesVote_136 ⟨Nat.le_of_ble_eq_true rfl, Nat.le_of_ble_eq_true rfl⟩ (fun v Y H locs hq hG => ?_)
            obtain ⟨rfl, rfl⟩ := hq
            have q136 : m_gre mst (M1 4 ((5 + (5 * i)) + j)) < 2147483648 := m_gre_le (by omega) (by omega)
            refine lv_istore (lv' := [(6, .int (nI (m_gre mst (M1 4 ((5 + (5 * i)) + j))))), (0, .ref mb), (1, .int (nI i)), (5, .int (-1)), (7, .int (nI j))]) hx hb dX5_takesVote_139 hl (by decide) rfl (fun ls hl => ?_)
            refine lv_iload hx hb dX5_takesVote_141 (lv_at hl 3 rfl) ?_
            refine lv_iconst (v := -1) hx hb dX5_takesVote_143 (by decide) ?_
            refine lv_icmp_eq (tgt := 172) hx hb dX5_takesVote_144 (by decide) (fun c144 => ?_) (fun c144 => ?_)
            · refine n_iconst hC 1 dX5_takesVote_172 ?_
              refine lv_goto (tgt := 177) hx hb dX5_takesVote_173 (by decide) ?_
              refine lv_istore (lv' := [(8, .int (nI 1)), (6, .int (nI (m_gre mst (M1 4 ((5 + (5 * i)) + j))))), (0, .ref mb), (1, .int (nI i)), (5, .int (-1)), (7, .int (nI j))]) hx hb dX5_takesVote_177 hl (by decide) rfl (fun ls hl => ?_)
              refine lv_iload hx hb dX5_takesVote_179 (lv_at hl 4 rfl) ?_
              refine lv_iconst (v := -1) hx hb dX5_takesVote_181 (by decide) ?_
              refine lv_icmp_eq (tgt := 243) hx hb dX5_takesVote_182 (by decide) (fun c182 => ?_) (fun c182 => ?_)
              · refine n_iconst hC 0 dX5_takesVote_243 ?_
                refine lv_istore (lv' := [(9, .int (nI 0)), (8, .int (nI 1)), (6, .int (nI (m_gre mst (M1 4 ((5 + (5 * i)) + j))))), (0, .ref mb), (1, .int (nI i)), (5, .int (-1)), (7, .int (nI j))]) hx hb dX5_takesVote_244 hl (by decide) rfl (fun ls hl => ?_)
                refine lv_iload hx hb dX5_takesVote_246 (lv_at hl 1 rfl) ?_
                refine n_ifne (tgt := 256) hC dX5_takesVote_248 (by decide) (by omega) (fun c248 => ?_) (fun c248 => ?_)
                · refine lv_iload hx hb dX5_takesVote_256 (lv_at hl 6 rfl) ?_
                  refine lv_goto (tgt := 263) hx hb dX5_takesVote_258 (by decide) ?_
                  refine lv_istore (lv' := [(5, .int (nI j)), (9, .int (nI 0)), (8, .int (nI 1)), (6, .int (nI (m_gre mst (M1 4 ((5 + (5 * i)) + j))))), (0, .ref mb), (1, .int (nI i)), (7, .int (nI j))]) hx hb dX5_takesVote_263 hl (by decide) rfl (fun ls hl => ?_)
                  refine n_iinc (n := 1) (k := 6) (lv' := [(7, .int (nI (j + 1))), (5, .int (nI j)), (9, .int (nI 0)), (8, .int (nI 1)), (6, .int (nI (m_gre mst (M1 4 ((5 + (5 * i)) + j))))), (0, .ref mb), (1, .int (nI i))]) hC dX5_takesVote_265 hl rfl (by decide) rfl (fun ls hl => ?_)
                  refine lv_goto (tgt := 98) hx hb dX5_takesVote_268 (by decide) ?_
                  exact ih M1 (nI j) (m_gre mst (M1 4 ((5 + (5 * i)) + j))) (j + 1) _ _ _ (by omega) (by omega) hB hcn (by simp only [m_bst, hob, c118, ↓reduceIte]; rfl) (by rw [m_mst, ← hms]; simp only [c118, ↓reduceIte]) hT hG (lv_sub hl [5, 6, 1, 4, 0] rfl)
                · exact absurd c248 (by decide)
              · exact absurd rfl c182
            · exact absurd rfl c144
        · have hl : lv_has ls 10 [(0, .ref mb), (1, .int (nI i)), (5, .int (nI b)), (6, .int (nI mst)), (7, .int (nI j))] := by rw [hbs, hob] at hl; exact hl
          have hbj : b < j := m_bst_lt M1 i j b hob
          refine lv_aload_n hx hb dX5_takesVote_107 rfl (lv_at hl 0 rfl) ?_
          refine q_mg hC hG hS i5 12 rfl k41 dX5_takesVote_108 ?_
          refine n_iconst hC 5 dX5_takesVote_111 ?_
          refine lv_iload_n hx hb dX5_takesVote_112 rfl (lv_at hl 1 rfl) ?_
          refine n_imul hC dX5_takesVote_113 ?_
          refine lv_iload hx hb dX5_takesVote_114 (lv_at hl 4 rfl) ?_
          refine n_iadd hC dX5_takesVote_116 ?_
          refine q_mlz (N := 25) (w := M1 12 ((5 * i) + j)) hC hG hS 12 rfl rfl rfl (by omega) rfl dX5_takesVote_117 ?_
          have b6 : M1 12 ((5 * i) + j) < 2147483648 := by have := hB.1 12 ((5 * i) + j) rfl; first | exact this | (simp [up2, m_cp, m_cpk] at this; exact this) | omega
          refine n_ifeq (tgt := 265) hC dX5_takesVote_118 (by decide) (by omega) (fun c118 => ?_) (fun c118 => ?_)
          · refine n_iinc (n := 1) (k := 4) (lv' := [(7, .int (nI (j + 1))), (0, .ref mb), (1, .int (nI i)), (5, .int (nI b)), (6, .int (nI mst))]) hC dX5_takesVote_265 hl rfl (by decide) rfl (fun ls hl => ?_)
            refine lv_goto (tgt := 98) hx hb dX5_takesVote_268 (by decide) ?_
            exact ih M1 (nI b) mst (j + 1) _ _ _ (by omega) (by omega) hB hcn (by simp only [m_bst, hob, c118, ↓reduceIte]; rfl) (by rw [m_mst, ← hms]; simp only [c118, ↓reduceIte]) hT hG (lv_sub hl [1, 2, 3, 4, 0] rfl)
          · refine lv_iload hx hb dX5_takesVote_121 (lv_at hl 3 rfl) ?_
            refine lv_aload_n hx hb dX5_takesVote_123 rfl (lv_at hl 0 rfl) ?_
            refine q_mg hC hG hS i5 4 rfl k16 dX5_takesVote_124 ?_
            refine n_iconst hC 5 dX5_takesVote_127 ?_
            refine n_iconst hC 5 dX5_takesVote_128 ?_
            refine lv_iload_n hx hb dX5_takesVote_129 rfl (lv_at hl 1 rfl) ?_
            refine n_imul hC dX5_takesVote_130 ?_
            refine n_iadd hC dX5_takesVote_131 ?_
            refine lv_iload hx hb dX5_takesVote_132 (lv_at hl 4 rfl) ?_
            refine n_iadd hC dX5_takesVote_134 ?_
            refine q_ml (N := 295) (w := M1 4 ((5 + (5 * i)) + j)) hC hG hS 4 rfl rfl rfl (by omega) rfl dX5_takesVote_135 ?_
            have b7 : M1 4 ((5 + (5 * i)) + j) < 2147483648 := by have := hB.1 4 ((5 + (5 * i)) + j) rfl; first | exact this | (simp [up2, m_cp, m_cpk] at this; exact this) | omega
            refine q_callS (rest := []) (k_X5_greater l D cA A _ mst (M1 4 ((5 + (5 * i)) + j)) (by omega) (by omega)) hC hG 2 gX5_takesVote_X5_greater rfl (by decide +kernel) ⟨by decide, by decide⟩ rfl hl.1 rfl (by simp [Value.category]) dX5_takesVote_136 ⟨Nat.le_of_ble_eq_true rfl, Nat.le_of_ble_eq_true rfl⟩ (fun v Y H locs hq hG => ?_)
            obtain ⟨rfl, rfl⟩ := hq
            have q136 : m_gre mst (M1 4 ((5 + (5 * i)) + j)) < 2147483648 := m_gre_le (by omega) (by omega)
            refine lv_istore (lv' := [(6, .int (nI (m_gre mst (M1 4 ((5 + (5 * i)) + j))))), (0, .ref mb), (1, .int (nI i)), (5, .int (nI b)), (7, .int (nI j))]) hx hb dX5_takesVote_139 hl (by decide) rfl (fun ls hl => ?_)
            refine lv_iload hx hb dX5_takesVote_141 (lv_at hl 3 rfl) ?_
            refine lv_iconst (v := -1) hx hb dX5_takesVote_143 (by decide) ?_
            refine lv_icmp_eq (tgt := 172) hx hb dX5_takesVote_144 (by decide) (fun c144 => ?_) (fun c144 => ?_)
            · exact absurd c144 (nI_nm1 (by omega))
            · refine lv_aload_n hx hb dX5_takesVote_147 rfl (lv_at hl 1 rfl) ?_
              refine q_mg hC hG hS i5 13 rfl k44 dX5_takesVote_148 ?_
              refine n_iconst hC 5 dX5_takesVote_151 ?_
              refine lv_iload_n hx hb dX5_takesVote_152 rfl (lv_at hl 2 rfl) ?_
              refine n_imul hC dX5_takesVote_153 ?_
              refine lv_iload hx hb dX5_takesVote_154 (lv_at hl 4 rfl) ?_
              refine n_iadd hC dX5_takesVote_156 ?_
              refine q_ml (N := 25) (w := M1 13 ((5 * i) + j)) hC hG hS 13 rfl rfl rfl (by omega) rfl dX5_takesVote_157 ?_
              have b8 : M1 13 ((5 * i) + j) < 2147483648 := by have := hB.1 13 ((5 * i) + j) rfl; first | exact this | (simp [up2, m_cp, m_cpk] at this; exact this) | omega
              refine lv_aload_n hx hb dX5_takesVote_158 rfl (lv_at hl 1 rfl) ?_
              refine q_mg hC hG hS i5 13 rfl k44 dX5_takesVote_159 ?_
              refine n_iconst hC 5 dX5_takesVote_162 ?_
              refine lv_iload_n hx hb dX5_takesVote_163 rfl (lv_at hl 2 rfl) ?_
              refine n_imul hC dX5_takesVote_164 ?_
              refine lv_iload hx hb dX5_takesVote_165 (lv_at hl 3 rfl) ?_
              refine n_iadd hC dX5_takesVote_167 ?_
              refine q_ml (N := 25) (w := M1 13 ((5 * i) + b)) hC hG hS 13 rfl rfl rfl (by omega) rfl dX5_takesVote_168 ?_
              have b9 : M1 13 ((5 * i) + b) < 2147483648 := by have := hB.1 13 ((5 * i) + b) rfl; first | exact this | (simp [up2, m_cp, m_cpk] at this; exact this) | omega
              refine n_le (tgt := 176) hC dX5_takesVote_169 (by decide) (by omega) (by omega) (fun c169 => ?_) (fun c169 => ?_)
              · have c169n := Nat.not_lt.mpr c169
                refine n_iconst hC 0 dX5_takesVote_176 ?_
                refine lv_istore (lv' := [(8, .int (nI 0)), (6, .int (nI (m_gre mst (M1 4 ((5 + (5 * i)) + j))))), (0, .ref mb), (1, .int (nI i)), (5, .int (nI b)), (7, .int (nI j))]) hx hb dX5_takesVote_177 hl (by decide) rfl (fun ls hl => ?_)
                refine lv_iload hx hb dX5_takesVote_179 (lv_at hl 4 rfl) ?_
                refine lv_iconst (v := -1) hx hb dX5_takesVote_181 (by decide) ?_
                refine lv_icmp_eq (tgt := 243) hx hb dX5_takesVote_182 (by decide) (fun c182 => ?_) (fun c182 => ?_)
                · exact absurd c182 (nI_nm1 (by omega))
                · refine lv_aload_n hx hb dX5_takesVote_185 rfl (lv_at hl 2 rfl) ?_
                  refine q_mg hC hG hS i5 13 rfl k44 dX5_takesVote_186 ?_
                  refine n_iconst hC 5 dX5_takesVote_189 ?_
                  refine lv_iload_n hx hb dX5_takesVote_190 rfl (lv_at hl 3 rfl) ?_
                  refine n_imul hC dX5_takesVote_191 ?_
                  refine lv_iload hx hb dX5_takesVote_192 (lv_at hl 5 rfl) ?_
                  refine n_iadd hC dX5_takesVote_194 ?_
                  refine q_ml (N := 25) (w := M1 13 ((5 * i) + j)) hC hG hS 13 rfl rfl rfl (by omega) rfl dX5_takesVote_195 ?_
                  have b10 : M1 13 ((5 * i) + j) < 2147483648 := by have := hB.1 13 ((5 * i) + j) rfl; first | exact this | (simp [up2, m_cp, m_cpk] at this; exact this) | omega
                  refine lv_aload_n hx hb dX5_takesVote_196 rfl (lv_at hl 2 rfl) ?_
                  refine q_mg hC hG hS i5 13 rfl k44 dX5_takesVote_197 ?_
                  refine n_iconst hC 5 dX5_takesVote_200 ?_
                  refine lv_iload_n hx hb dX5_takesVote_201 rfl (lv_at hl 3 rfl) ?_
                  refine n_imul hC dX5_takesVote_202 ?_
                  refine lv_iload hx hb dX5_takesVote_203 (lv_at hl 4 rfl) ?_
                  refine n_iadd hC dX5_takesVote_205 ?_
                  refine q_ml (N := 25) (w := M1 13 ((5 * i) + b)) hC hG hS 13 rfl rfl rfl (by omega) rfl dX5_takesVote_206 ?_
                  have b11 : M1 13 ((5 * i) + b) < 2147483648 := by have := hB.1 13 ((5 * i) + b) rfl; first | exact this | (simp [up2, m_cp, m_cpk] at this; exact this) | omega
                  refine n_ne (tgt := 243) hC dX5_takesVote_207 (by decide) (by omega) (by omega) (fun c207 => ?_) (fun c207 => ?_)
                  · refine n_iconst hC 0 dX5_takesVote_243 ?_
                    refine lv_istore (lv' := [(9, .int (nI 0)), (8, .int (nI 0)), (6, .int (nI (m_gre mst (M1 4 ((5 + (5 * i)) + j))))), (0, .ref mb), (1, .int (nI i)), (5, .int (nI b)), (7, .int (nI j))]) hx hb dX5_takesVote_244 hl (by decide) rfl (fun ls hl => ?_)
                    refine lv_iload hx hb dX5_takesVote_246 (lv_at hl 1 rfl) ?_
                    refine n_ifne (tgt := 256) hC dX5_takesVote_248 (by decide) (by omega) (fun c248 => ?_) (fun c248 => ?_)
                    · exact absurd c248 (by decide)
                    · refine lv_iload hx hb dX5_takesVote_251 (lv_at hl 0 rfl) ?_
                      refine n_ifeq (tgt := 261) hC dX5_takesVote_253 (by decide) (by omega) (fun c253 => ?_) (fun c253 => ?_)
                      · refine lv_iload hx hb dX5_takesVote_261 (lv_at hl 5 rfl) ?_
                        refine lv_istore (lv' := [(5, .int (nI b)), (9, .int (nI 0)), (8, .int (nI 0)), (6, .int (nI (m_gre mst (M1 4 ((5 + (5 * i)) + j))))), (0, .ref mb), (1, .int (nI i)), (7, .int (nI j))]) hx hb dX5_takesVote_263 hl (by decide) rfl (fun ls hl => ?_)
                        refine n_iinc (n := 1) (k := 6) (lv' := [(7, .int (nI (j + 1))), (5, .int (nI b)), (9, .int (nI 0)), (8, .int (nI 0)), (6, .int (nI (m_gre mst (M1 4 ((5 + (5 * i)) + j))))), (0, .ref mb), (1, .int (nI i))]) hC dX5_takesVote_265 hl rfl (by decide) rfl (fun ls hl => ?_)
                        refine lv_goto (tgt := 98) hx hb dX5_takesVote_268 (by decide) ?_
                        exact ih M1 (nI b) (m_gre mst (M1 4 ((5 + (5 * i)) + j))) (j + 1) _ _ _ (by omega) (by omega) hB hcn (by first | (simp only [m_bst, hob, c118, c169, c207, ↓reduceIte]; rfl) | (simp only [m_bst, hob, c118, ↓reduceIte, show ¬ (M1 13 (5 * i + b) < M1 13 (5 * i + j)) from by omega]; first | (rw [if_pos (by omega)]; rfl) | (rw [if_neg (by omega)]; rfl))) (by rw [m_mst, ← hms]; simp only [c118, ↓reduceIte]) hT hG (lv_sub hl [5, 6, 1, 4, 0] rfl)
                      · exact absurd c253 (by decide)
                  · refine lv_aload_n hx hb dX5_takesVote_210 rfl (lv_at hl 2 rfl) ?_
                    refine q_mg hC hG hS i5 3 rfl k13 dX5_takesVote_211 ?_
                    refine n_iconst hC 5 dX5_takesVote_214 ?_
                    refine n_iconst hC 5 dX5_takesVote_215 ?_
                    refine lv_iload_n hx hb dX5_takesVote_216 rfl (lv_at hl 3 rfl) ?_
                    refine n_imul hC dX5_takesVote_217 ?_
                    refine n_iadd hC dX5_takesVote_218 ?_
                    refine lv_iload hx hb dX5_takesVote_219 (lv_at hl 5 rfl) ?_
                    refine n_iadd hC dX5_takesVote_221 ?_
                    refine q_ml (N := 295) (w := M1 3 ((5 + (5 * i)) + j)) hC hG hS 3 rfl rfl rfl (by omega) rfl dX5_takesVote_222 ?_
                    have b12 : M1 3 ((5 + (5 * i)) + j) < 2147483648 := by have := hB.1 3 ((5 + (5 * i)) + j) rfl; first | exact this | (simp [up2, m_cp, m_cpk] at this; exact this) | omega
                    refine lv_aload_n hx hb dX5_takesVote_223 rfl (lv_at hl 2 rfl) ?_
                    refine q_mg hC hG hS i5 3 rfl k13 dX5_takesVote_224 ?_
                    refine n_iconst hC 5 dX5_takesVote_227 ?_
                    refine n_iconst hC 5 dX5_takesVote_228 ?_
                    refine lv_iload_n hx hb dX5_takesVote_229 rfl (lv_at hl 3 rfl) ?_
                    refine n_imul hC dX5_takesVote_230 ?_
                    refine n_iadd hC dX5_takesVote_231 ?_
                    refine lv_iload hx hb dX5_takesVote_232 (lv_at hl 4 rfl) ?_
                    refine n_iadd hC dX5_takesVote_234 ?_
                    refine q_ml (N := 295) (w := M1 3 ((5 + (5 * i)) + b)) hC hG hS 3 rfl rfl rfl (by omega) rfl dX5_takesVote_235 ?_
                    have b13 : M1 3 ((5 + (5 * i)) + b) < 2147483648 := by have := hB.1 3 ((5 + (5 * i)) + b) rfl; first | exact this | (simp [up2, m_cp, m_cpk] at this; exact this) | omega
                    refine n_le (tgt := 243) hC dX5_takesVote_236 (by decide) (by omega) (by omega) (fun c236 => ?_) (fun c236 => ?_)
                    · have c236n := Nat.not_lt.mpr c236
                      refine n_iconst hC 0 dX5_takesVote_243 ?_
                      refine lv_istore (lv' := [(9, .int (nI 0)), (8, .int (nI 0)), (6, .int (nI (m_gre mst (M1 4 ((5 + (5 * i)) + j))))), (0, .ref mb), (1, .int (nI i)), (5, .int (nI b)), (7, .int (nI j))]) hx hb dX5_takesVote_244 hl (by decide) rfl (fun ls hl => ?_)
                      refine lv_iload hx hb dX5_takesVote_246 (lv_at hl 1 rfl) ?_
                      refine n_ifne (tgt := 256) hC dX5_takesVote_248 (by decide) (by omega) (fun c248 => ?_) (fun c248 => ?_)
                      · exact absurd c248 (by decide)
                      · refine lv_iload hx hb dX5_takesVote_251 (lv_at hl 0 rfl) ?_
                        refine n_ifeq (tgt := 261) hC dX5_takesVote_253 (by decide) (by omega) (fun c253 => ?_) (fun c253 => ?_)
                        · refine lv_iload hx hb dX5_takesVote_261 (lv_at hl 5 rfl) ?_
                          refine lv_istore (lv' := [(5, .int (nI b)), (9, .int (nI 0)), (8, .int (nI 0)), (6, .int (nI (m_gre mst (M1 4 ((5 + (5 * i)) + j))))), (0, .ref mb), (1, .int (nI i)), (7, .int (nI j))]) hx hb dX5_takesVote_263 hl (by decide) rfl (fun ls hl => ?_)
                          refine n_iinc (n := 1) (k := 6) (lv' := [(7, .int (nI (j + 1))), (5, .int (nI b)), (9, .int (nI 0)), (8, .int (nI 0)), (6, .int (nI (m_gre mst (M1 4 ((5 + (5 * i)) + j))))), (0, .ref mb), (1, .int (nI i))]) hC dX5_takesVote_265 hl rfl (by decide) rfl (fun ls hl => ?_)
                          refine lv_goto (tgt := 98) hx hb dX5_takesVote_268 (by decide) ?_
                          exact ih M1 (nI b) (m_gre mst (M1 4 ((5 + (5 * i)) + j))) (j + 1) _ _ _ (by omega) (by omega) hB hcn (by first | (simp only [m_bst, hob, c118, c169, c207, c236, ↓reduceIte]; rfl) | (simp only [m_bst, hob, c118, ↓reduceIte, show ¬ (M1 13 (5 * i + b) < M1 13 (5 * i + j)) from by omega]; first | (rw [if_pos (by omega)]; rfl) | (rw [if_neg (by omega)]; rfl))) (by rw [m_mst, ← hms]; simp only [c118, ↓reduceIte]) hT hG (lv_sub hl [5, 6, 1, 4, 0] rfl)
                        · exact absurd c253 (by decide)
                    · have c236n := Nat.not_le.mpr c236
                      refine n_iconst hC 1 dX5_takesVote_239 ?_
                      refine lv_goto (tgt := 244) hx hb dX5_takesVote_240 (by decide) ?_
                      refine lv_istore (lv' := [(9, .int (nI 1)), (8, .int (nI 0)), (6, .int (nI (m_gre mst (M1 4 ((5 + (5 * i)) + j))))), (0, .ref mb), (1, .int (nI i)), (5, .int (nI b)), (7, .int (nI j))]) hx hb dX5_takesVote_244 hl (by decide) rfl (fun ls hl => ?_)
                      refine lv_iload hx hb dX5_takesVote_246 (lv_at hl 1 rfl) ?_
                      refine n_ifne (tgt := 256) hC dX5_takesVote_248 (by decide) (by omega) (fun c248 => ?_) (fun c248 => ?_)
                      · exact absurd c248 (by decide)
                      · refine lv_iload hx hb dX5_takesVote_251 (lv_at hl 0 rfl) ?_
                        refine n_ifeq (tgt := 261) hC dX5_takesVote_253 (by decide) (by omega) (fun c253 => ?_) (fun c253 => ?_)
                        · exact absurd c253 (by decide)
                        · refine lv_iload hx hb dX5_takesVote_256 (lv_at hl 6 rfl) ?_
                          refine lv_goto (tgt := 263) hx hb dX5_takesVote_258 (by decide) ?_
                          refine lv_istore (lv' := [(5, .int (nI j)), (9, .int (nI 1)), (8, .int (nI 0)), (6, .int (nI (m_gre mst (M1 4 ((5 + (5 * i)) + j))))), (0, .ref mb), (1, .int (nI i)), (7, .int (nI j))]) hx hb dX5_takesVote_263 hl (by decide) rfl (fun ls hl => ?_)
                          refine n_iinc (n := 1) (k := 6) (lv' := [(7, .int (nI (j + 1))), (5, .int (nI j)), (9, .int (nI 1)), (8, .int (nI 0)), (6, .int (nI (m_gre mst (M1 4 ((5 + (5 * i)) + j))))), (0, .ref mb), (1, .int (nI i))]) hC dX5_takesVote_265 hl rfl (by decide) rfl (fun ls hl => ?_)
                          refine lv_goto (tgt := 98) hx hb dX5_takesVote_268 (by decide) ?_
                          exact ih M1 (nI j) (m_gre mst (M1 4 ((5 + (5 * i)) + j))) (j + 1) _ _ _ (by omega) (by omega) hB hcn (by first | (simp only [m_bst, hob, c118, c169, c207, c236, ↓reduceIte]; rfl) | (simp only [m_bst, hob, c118, ↓reduceIte, show ¬ (M1 13 (5 * i + b) < M1 13 (5 * i + j)) from by omega]; first | (rw [if_pos (by omega)]; rfl) | (rw [if_neg (by omega)]; rfl))) (by rw [m_mst, ← hms]; simp only [c118, ↓reduceIte]) hT hG (lv_sub hl [5, 6, 1, 4, 0] rfl)
              · have c169n := Nat.not_le.mpr c169
                refine n_iconst hC 1 dX5_takesVote_172 ?_
                refine lv_goto (tgt := 177) hx hb dX5_takesVote_173 (by decide) ?_
                refine lv_istore (lv' := [(8, .int (nI 1)), (6, .int (nI (m_gre mst (M1 4 ((5 + (5 * i)) + j))))), (0, .ref mb), (1, .int (nI i)), (5, .int (nI b)), (7, .int (nI j))]) hx hb dX5_takesVote_177 hl (by decide) rfl (fun ls hl => ?_)
                refine lv_iload hx hb dX5_takesVote_179 (lv_at hl 4 rfl) ?_
                refine lv_iconst (v := -1) hx hb dX5_takesVote_181 (by decide) ?_
                refine lv_icmp_eq (tgt := 243) hx hb dX5_takesVote_182 (by decide) (fun c182 => ?_) (fun c182 => ?_)
                · exact absurd c182 (nI_nm1 (by omega))
                · refine lv_aload_n hx hb dX5_takesVote_185 rfl (lv_at hl 2 rfl) ?_
                  refine q_mg hC hG hS i5 13 rfl k44 dX5_takesVote_186 ?_
                  refine n_iconst hC 5 dX5_takesVote_189 ?_
                  refine lv_iload_n hx hb dX5_takesVote_190 rfl (lv_at hl 3 rfl) ?_
                  refine n_imul hC dX5_takesVote_191 ?_
                  refine lv_iload hx hb dX5_takesVote_192 (lv_at hl 5 rfl) ?_
                  refine n_iadd hC dX5_takesVote_194 ?_
                  refine q_ml (N := 25) (w := M1 13 ((5 * i) + j)) hC hG hS 13 rfl rfl rfl (by omega) rfl dX5_takesVote_195 ?_
                  have b14 : M1 13 ((5 * i) + j) < 2147483648 := by have := hB.1 13 ((5 * i) + j) rfl; first | exact this | (simp [up2, m_cp, m_cpk] at this; exact this) | omega
                  refine lv_aload_n hx hb dX5_takesVote_196 rfl (lv_at hl 2 rfl) ?_
                  refine q_mg hC hG hS i5 13 rfl k44 dX5_takesVote_197 ?_
                  refine n_iconst hC 5 dX5_takesVote_200 ?_
                  refine lv_iload_n hx hb dX5_takesVote_201 rfl (lv_at hl 3 rfl) ?_
                  refine n_imul hC dX5_takesVote_202 ?_
                  refine lv_iload hx hb dX5_takesVote_203 (lv_at hl 4 rfl) ?_
                  refine n_iadd hC dX5_takesVote_205 ?_
                  refine q_ml (N := 25) (w := M1 13 ((5 * i) + b)) hC hG hS 13 rfl rfl rfl (by omega) rfl dX5_takesVote_206 ?_
                  have b15 : M1 13 ((5 * i) + b) < 2147483648 := by have := hB.1 13 ((5 * i) + b) rfl; first | exact this | (simp [up2, m_cp, m_cpk] at this; exact this) | omega
                  refine n_ne (tgt := 243) hC dX5_takesVote_207 (by decide) (by omega) (by omega) (fun c207 => ?_) (fun c207 => ?_)
                  · refine n_iconst hC 0 dX5_takesVote_243 ?_
                    refine lv_istore (lv' := [(9, .int (nI 0)), (8, .int (nI 1)), (6, .int (nI (m_gre mst (M1 4 ((5 + (5 * i)) + j))))), (0, .ref mb), (1, .int (nI i)), (5, .int (nI b)), (7, .int (nI j))]) hx hb dX5_takesVote_244 hl (by decide) rfl (fun ls hl => ?_)
                    refine lv_iload hx hb dX5_takesVote_246 (lv_at hl 1 rfl) ?_
                    refine n_ifne (tgt := 256) hC dX5_takesVote_248 (by decide) (by omega) (fun c248 => ?_) (fun c248 => ?_)
                    · refine lv_iload hx hb dX5_takesVote_256 (lv_at hl 6 rfl) ?_
                      refine lv_goto (tgt := 263) hx hb dX5_takesVote_258 (by decide) ?_
                      refine lv_istore (lv' := [(5, .int (nI j)), (9, .int (nI 0)), (8, .int (nI 1)), (6, .int (nI (m_gre mst (M1 4 ((5 + (5 * i)) + j))))), (0, .ref mb), (1, .int (nI i)), (7, .int (nI j))]) hx hb dX5_takesVote_263 hl (by decide) rfl (fun ls hl => ?_)
                      refine n_iinc (n := 1) (k := 6) (lv' := [(7, .int (nI (j + 1))), (5, .int (nI j)), (9, .int (nI 0)), (8, .int (nI 1)), (6, .int (nI (m_gre mst (M1 4 ((5 + (5 * i)) + j))))), (0, .ref mb), (1, .int (nI i))]) hC dX5_takesVote_265 hl rfl (by decide) rfl (fun ls hl => ?_)
                      refine lv_goto (tgt := 98) hx hb dX5_takesVote_268 (by decide) ?_
                      exact ih M1 (nI j) (m_gre mst (M1 4 ((5 + (5 * i)) + j))) (j + 1) _ _ _ (by omega) (by omega) hB hcn (by first | (simp only [m_bst, hob, c118, c169, c207, ↓reduceIte]; rfl) | (simp only [m_bst, hob, c118, ↓reduceIte, show ¬ (M1 13 (5 * i + b) < M1 13 (5 * i + j)) from by omega]; first | (rw [if_pos (by omega)]; rfl) | (rw [if_neg (by omega)]; rfl))) (by rw [m_mst, ← hms]; simp only [c118, ↓reduceIte]) hT hG (lv_sub hl [5, 6, 1, 4, 0] rfl)
                    · exact absurd c248 (by decide)
                  · refine lv_aload_n hx hb dX5_takesVote_210 rfl (lv_at hl 2 rfl) ?_
                    refine q_mg hC hG hS i5 3 rfl k13 dX5_takesVote_211 ?_
                    refine n_iconst hC 5 dX5_takesVote_214 ?_
                    refine n_iconst hC 5 dX5_takesVote_215 ?_
                    refine lv_iload_n hx hb dX5_takesVote_216 rfl (lv_at hl 3 rfl) ?_
                    refine n_imul hC dX5_takesVote_217 ?_
                    refine n_iadd hC dX5_takesVote_218 ?_
                    refine lv_iload hx hb dX5_takesVote_219 (lv_at hl 5 rfl) ?_
                    refine n_iadd hC dX5_takesVote_221 ?_
                    refine q_ml (N := 295) (w := M1 3 ((5 + (5 * i)) + j)) hC hG hS 3 rfl rfl rfl (by omega) rfl dX5_takesVote_222 ?_
                    have b16 : M1 3 ((5 + (5 * i)) + j) < 2147483648 := by have := hB.1 3 ((5 + (5 * i)) + j) rfl; first | exact this | (simp [up2, m_cp, m_cpk] at this; exact this) | omega
                    refine lv_aload_n hx hb dX5_takesVote_223 rfl (lv_at hl 2 rfl) ?_
                    refine q_mg hC hG hS i5 3 rfl k13 dX5_takesVote_224 ?_
                    refine n_iconst hC 5 dX5_takesVote_227 ?_
                    refine n_iconst hC 5 dX5_takesVote_228 ?_
                    refine lv_iload_n hx hb dX5_takesVote_229 rfl (lv_at hl 3 rfl) ?_
                    refine n_imul hC dX5_takesVote_230 ?_
                    refine n_iadd hC dX5_takesVote_231 ?_
                    refine lv_iload hx hb dX5_takesVote_232 (lv_at hl 4 rfl) ?_
                    refine n_iadd hC dX5_takesVote_234 ?_
                    refine q_ml (N := 295) (w := M1 3 ((5 + (5 * i)) + b)) hC hG hS 3 rfl rfl rfl (by omega) rfl dX5_takesVote_235 ?_
                    have b17 : M1 3 ((5 + (5 * i)) + b) < 2147483648 := by have := hB.1 3 ((5 + (5 * i)) + b) rfl; first | exact this | (simp [up2, m_cp, m_cpk] at this; exact this) | omega
                    refine n_le (tgt := 243) hC dX5_takesVote_236 (by decide) (by omega) (by omega) (fun c236 => ?_) (fun c236 => ?_)
                    · have c236n := Nat.not_lt.mpr c236
                      refine n_iconst hC 0 dX5_takesVote_243 ?_
                      refine lv_istore (lv' := [(9, .int (nI 0)), (8, .int (nI 1)), (6, .int (nI (m_gre mst (M1 4 ((5 + (5 * i)) + j))))), (0, .ref mb), (1, .int (nI i)), (5, .int (nI b)), (7, .int (nI j))]) hx hb dX5_takesVote_244 hl (by decide) rfl (fun ls hl => ?_)
                      refine lv_iload hx hb dX5_takesVote_246 (lv_at hl 1 rfl) ?_
                      refine n_ifne (tgt := 256) hC dX5_takesVote_248 (by decide) (by omega) (fun c248 => ?_) (fun c248 => ?_)
                      · refine lv_iload hx hb dX5_takesVote_256 (lv_at hl 6 rfl) ?_
                        refine lv_goto (tgt := 263) hx hb dX5_takesVote_258 (by decide) ?_
                        refine lv_istore (lv' := [(5, .int (nI j)), (9, .int (nI 0)), (8, .int (nI 1)), (6, .int (nI (m_gre mst (M1 4 ((5 + (5 * i)) + j))))), (0, .ref mb), (1, .int (nI i)), (7, .int (nI j))]) hx hb dX5_takesVote_263 hl (by decide) rfl (fun ls hl => ?_)
                        refine n_iinc (n := 1) (k := 6) (lv' := [(7, .int (nI (j + 1))), (5, .int (nI j)), (9, .int (nI 0)), (8, .int (nI 1)), (6, .int (nI (m_gre mst (M1 4 ((5 + (5 * i)) + j))))), (0, .ref mb), (1, .int (nI i))]) hC dX5_takesVote_265 hl rfl (by decide) rfl (fun ls hl => ?_)
                        refine lv_goto (tgt := 98) hx hb dX5_takesVote_268 (by decide) ?_
                        exact ih M1 (nI j) (m_gre mst (M1 4 ((5 + (5 * i)) + j))) (j + 1) _ _ _ (by omega) (by omega) hB hcn (by first | (simp only [m_bst, hob, c118, c169, c207, c236, ↓reduceIte]; rfl) | (simp only [m_bst, hob, c118, ↓reduceIte, show ¬ (M1 13 (5 * i + b) < M1 13 (5 * i + j)) from by omega]; first | (rw [if_pos (by omega)]; rfl) | (rw [if_neg (by omega)]; rfl))) (by rw [m_mst, ← hms]; simp only [c118, ↓reduceIte]) hT hG (lv_sub hl [5, 6, 1, 4, 0] rfl)
                      · exact absurd c248 (by decide)
                    · have c236n := Nat.not_le.mpr c236
                      refine n_iconst hC 1 dX5_takesVote_239 ?_
                      refine lv_goto (tgt := 244) hx hb dX5_takesVote_240 (by decide) ?_
                      refine lv_istore (lv' := [(9, .int (nI 1)), (8, .int (nI 1)), (6, .int (nI (m_gre mst (M1 4 ((5 + (5 * i)) + j))))), (0, .ref mb), (1, .int (nI i)), (5, .int (nI b)), (7, .int (nI j))]) hx hb dX5_takesVote_244 hl (by decide) rfl (fun ls hl => ?_)
                      refine lv_iload hx hb dX5_takesVote_246 (lv_at hl 1 rfl) ?_
                      refine n_ifne (tgt := 256) hC dX5_takesVote_248 (by decide) (by omega) (fun c248 => ?_) (fun c248 => ?_)
                      · refine lv_iload hx hb dX5_takesVote_256 (lv_at hl 6 rfl) ?_
                        refine lv_goto (tgt := 263) hx hb dX5_takesVote_258 (by decide) ?_
                        refine lv_istore (lv' := [(5, .int (nI j)), (9, .int (nI 1)), (8, .int (nI 1)), (6, .int (nI (m_gre mst (M1 4 ((5 + (5 * i)) + j))))), (0, .ref mb), (1, .int (nI i)), (7, .int (nI j))]) hx hb dX5_takesVote_263 hl (by decide) rfl (fun ls hl => ?_)
                        refine n_iinc (n := 1) (k := 6) (lv' := [(7, .int (nI (j + 1))), (5, .int (nI j)), (9, .int (nI 1)), (8, .int (nI 1)), (6, .int (nI (m_gre mst (M1 4 ((5 + (5 * i)) + j))))), (0, .ref mb), (1, .int (nI i))]) hC dX5_takesVote_265 hl rfl (by decide) rfl (fun ls hl => ?_)
                        refine lv_goto (tgt := 98) hx hb dX5_takesVote_268 (by decide) ?_
                        exact ih M1 (nI j) (m_gre mst (M1 4 ((5 + (5 * i)) + j))) (j + 1) _ _ _ (by omega) (by omega) hB hcn (by first | (simp only [m_bst, hob, c118, c169, c207, c236, ↓reduceIte]; rfl) | (simp only [m_bst, hob, c118, ↓reduceIte, show ¬ (M1 13 (5 * i + b) < M1 13 (5 * i + j)) from by omega]; first | (rw [if_pos (by omega)]; rfl) | (rw [if_neg (by omega)]; rfl))) (by rw [m_mst, ← hms]; simp only [c118, ↓reduceIte]) hT hG (lv_sub hl [5, 6, 1, 4, 0] rfl)
                      · exact absurd c248 (by decide)
  refine lv_aload_n hx hb dX5_takesVote_0 rfl (lv_at hl 0 rfl) ?_
  refine q_mg hC hG hS i5 5 rfl k19 dX5_takesVote_1 ?_
  refine lv_iload_n hx hb dX5_takesVote_4 rfl (lv_at hl 1 rfl) ?_
  refine q_ml (N := 5) (w := M 5 i) hC hG hS 5 rfl rfl rfl (by omega) rfl dX5_takesVote_5 ?_
  have b18 : M 5 i < 2147483648 := by have := hB.1 5 i rfl; first | exact this | (simp [up2, m_cp, m_cpk] at this; exact this) | omega
  refine n_iconst hC 1 dX5_takesVote_6 ?_
  refine n_ne (tgt := 23) hC dX5_takesVote_7 (by decide) (by omega) (by omega) (fun c7 => ?_) (fun c7 => ?_)
  · refine n_iconst hC 0 dX5_takesVote_23 ?_
    exact q_zret (v := 0) hC hG hr hlk (by first | decide | omega) (⟨by simp only [m_tv, m_tv2, c7, ↓reduceIte], by simp only [m_tv, m_tv2, c7, ↓reduceIte]⟩) dX5_takesVote_24
  · refine lv_aload_n hx hb dX5_takesVote_10 rfl (lv_at hl 0 rfl) ?_
    refine q_mg hC hG hS i5 12 rfl k41 dX5_takesVote_11 ?_
    refine n_iconst hC 5 dX5_takesVote_14 ?_
    refine lv_iload_n hx hb dX5_takesVote_15 rfl (lv_at hl 1 rfl) ?_
    refine n_imul hC dX5_takesVote_16 ?_
    refine lv_iload_n hx hb dX5_takesVote_17 rfl (lv_at hl 2 rfl) ?_
    refine n_iadd hC dX5_takesVote_18 ?_
    refine q_mlz (N := 25) (w := M 12 ((5 * i) + s0)) hC hG hS 12 rfl rfl rfl (by omega) rfl dX5_takesVote_19 ?_
    have b19 : M 12 ((5 * i) + s0) < 2147483648 := by have := hB.1 12 ((5 * i) + s0) rfl; first | exact this | (simp [up2, m_cp, m_cpk] at this; exact this) | omega
    refine n_ifeq (tgt := 25) hC dX5_takesVote_20 (by decide) (by omega) (fun c20 => ?_) (fun c20 => ?_)
    · refine lv_aload_n hx hb dX5_takesVote_25 rfl (lv_at hl 0 rfl) ?_
      refine q_mg hC hG hS i5 12 rfl k41 dX5_takesVote_26 ?_
      refine n_iconst hC 5 dX5_takesVote_29 ?_
      refine lv_iload_n hx hb dX5_takesVote_30 rfl (lv_at hl 1 rfl) ?_
      refine n_imul hC dX5_takesVote_31 ?_
      refine lv_iload_n hx hb dX5_takesVote_32 rfl (lv_at hl 2 rfl) ?_
      refine n_iadd hC dX5_takesVote_33 ?_
      refine n_iconst hC 1 dX5_takesVote_34 ?_
      refine q_msz (N := 25) hC hG hS 12 rfl rfl rfl (by omega) (by omega) dX5_takesVote_35 (fun H locs hG => ?_)
      have hB := bM_up hB 12 ((5 * i) + s0) (v := 1) (by omega)
      refine lv_aload_n hx hb dX5_takesVote_36 rfl (lv_at hl 0 rfl) ?_
      refine q_mg hC hG hS i5 13 rfl k44 dX5_takesVote_37 ?_
      refine n_iconst hC 5 dX5_takesVote_40 ?_
      refine lv_iload_n hx hb dX5_takesVote_41 rfl (lv_at hl 1 rfl) ?_
      refine n_imul hC dX5_takesVote_42 ?_
      refine lv_iload_n hx hb dX5_takesVote_43 rfl (lv_at hl 2 rfl) ?_
      refine n_iadd hC dX5_takesVote_44 ?_
      refine lv_iload hx hb dX5_takesVote_45 (lv_at hl 4 rfl) ?_
      refine q_ms (N := 25) hC hG hS 13 rfl rfl rfl (by omega) dX5_takesVote_47 (fun H locs hG => ?_)
      have hB := bM_up hB 13 ((5 * i) + s0) (v := c0) (by omega)
      refine lv_aload_n hx hb dX5_takesVote_48 rfl (lv_at hl 0 rfl) ?_
      refine lv_iload_n hx hb dX5_takesVote_49 rfl (lv_at hl 3 rfl) ?_
      refine n_iconst hC 5 dX5_takesVote_50 ?_
      refine n_iconst hC 5 dX5_takesVote_51 ?_
      refine lv_iload_n hx hb dX5_takesVote_52 rfl (lv_at hl 1 rfl) ?_
      refine n_imul hC dX5_takesVote_53 ?_
      refine n_iadd hC dX5_takesVote_54 ?_
      refine lv_iload_n hx hb dX5_takesVote_55 rfl (lv_at hl 2 rfl) ?_
      refine n_iadd hC dX5_takesVote_56 ?_
      refine q_callV (rest := []) (k_X5_copyLog l D cA A hS hB g0 ((5 + (5 * i)) + s0) (by omega) (by omega)) hC hG cF5 hS.1 2 gX5_takesVote_X5_copyLog rfl (by decide +kernel) ⟨by decide, by decide⟩ rfl hl.1 rfl (by simp [Value.category]) dX5_takesVote_57 ⟨Nat.le_of_ble_eq_true rfl, Nat.le_of_ble_eq_true rfl⟩ (fun v Y H locs hq hG => ?_)
      obtain ⟨rfl, rfl⟩ := hq
      have hB := bM_cp hB g0 ((5 + (5 * i)) + s0)
      refine lv_aload_n hx hb dX5_takesVote_60 rfl (lv_at hl 0 rfl) ?_
      refine lv_iload_n hx hb dX5_takesVote_61 rfl (lv_at hl 1 rfl) ?_
      refine q_callV (rest := []) (k_X5_votes l D cA A hS hB i (by omega)) hC hG cF5 hS.1 1 gX5_takesVote_X5_votes rfl (by decide +kernel) ⟨by decide, by decide⟩ rfl hl.1 rfl (by simp [Value.category]) dX5_takesVote_62 ⟨Nat.le_of_ble_eq_true rfl, Nat.le_of_ble_eq_true rfl⟩ (fun v Y H locs hq hG => ?_)
      obtain ⟨rfl, rfl⟩ := hq
      have q62 := m_cnt_le (m_cp (up2 (up2 M 12 ((5 * i) + s0) 1) 13 ((5 * i) + s0) c0) g0 ((5 + (5 * i)) + s0)) 12 (5 * i) n
      refine lv_aload_n hx hb dX5_takesVote_65 rfl (lv_at hl 0 rfl) ?_
      refine q_mf hC hG hS i5 k81 dX5_takesVote_66 ?_
      refine n_iconst hC 1 dX5_takesVote_69 ?_
      refine n_iadd hC dX5_takesVote_70 ?_
      refine n_lt (tgt := 87) hC dX5_takesVote_71 (by decide) (by omega) (by omega) (fun c71 => ?_) (fun c71 => ?_)
      · have c71n := Nat.not_le.mpr c71
        refine n_iconst hC 1 dX5_takesVote_87 ?_
        exact q_zret (v := 1) hC hG hr hlk (by first | decide | omega) (⟨by simp only [m_tv, m_tv2, c7, c20, c71, c71n, ↓reduceIte], by simp only [m_tv, m_tv2, c7, c20, c71, c71n, ↓reduceIte]⟩) dX5_takesVote_88
      · have c71n := Nat.not_lt.mpr c71
        refine lv_aload_n hx hb dX5_takesVote_74 rfl (lv_at hl 0 rfl) ?_
        refine q_mg hC hG hS i5 12 rfl k41 dX5_takesVote_75 ?_
        refine n_iconst hC 5 dX5_takesVote_78 ?_
        refine lv_iload_n hx hb dX5_takesVote_79 rfl (lv_at hl 1 rfl) ?_
        refine n_imul hC dX5_takesVote_80 ?_
        refine lv_iload_n hx hb dX5_takesVote_81 rfl (lv_at hl 1 rfl) ?_
        refine n_iadd hC dX5_takesVote_82 ?_
        refine q_mlz (N := 25) (w := (m_cp (up2 (up2 M 12 ((5 * i) + s0) 1) 13 ((5 * i) + s0) c0) g0 ((5 + (5 * i)) + s0)) 12 ((5 * i) + i)) hC hG hS 12 rfl rfl rfl (by omega) rfl dX5_takesVote_83 ?_
        have b20 : (m_cp (up2 (up2 M 12 ((5 * i) + s0) 1) 13 ((5 * i) + s0) c0) g0 ((5 + (5 * i)) + s0)) 12 ((5 * i) + i) < 2147483648 := by have := hB.1 12 ((5 * i) + i) rfl; first | exact this | (simp [up2, m_cp, m_cpk] at this; exact this) | omega
        refine n_ifne (tgt := 89) hC dX5_takesVote_84 (by decide) (by omega) (fun c84 => ?_) (fun c84 => ?_)
        · refine lv_iconst (v := -1) hx hb dX5_takesVote_89 (by decide) ?_
          refine lv_istore (lv' := [(5, .int (-1)), (0, .ref mb), (1, .int (nI i)), (2, .int (nI s0)), (3, .int (nI g0)), (4, .int (nI c0))]) hx hb dX5_takesVote_90 hl (by decide) rfl (fun ls hl => ?_)
          refine n_iconst hC 0 dX5_takesVote_92 ?_
          refine lv_istore (lv' := [(6, .int (nI 0)), (5, .int (-1)), (0, .ref mb), (1, .int (nI i)), (2, .int (nI s0)), (3, .int (nI g0)), (4, .int (nI c0))]) hx hb dX5_takesVote_93 hl (by decide) rfl (fun ls hl => ?_)
          refine n_iconst hC 0 dX5_takesVote_95 ?_
          refine lv_istore (lv' := [(7, .int (nI 0)), (6, .int (nI 0)), (5, .int (-1)), (0, .ref mb), (1, .int (nI i)), (2, .int (nI s0)), (3, .int (nI g0)), (4, .int (nI c0))]) hx hb dX5_takesVote_96 hl (by decide) rfl (fun ls hl => ?_)
          exact loopb (n + 1) _ (-1) 0 0 _ _ _ (by omega) (by omega) hB (by omega) rfl rfl (by simp only [m_tv, m_tv2, c7, c20, c71, c71n, c84, ↓reduceIte]) hG (lv_sub hl [3, 4, 2, 1, 0] rfl)
        · refine n_iconst hC 1 dX5_takesVote_87 ?_
          exact q_zret (v := 1) hC hG hr hlk (by first | decide | omega) (⟨by simp only [m_tv, m_tv2, c7, c20, c71, c71n, c84, ↓reduceIte], by simp only [m_tv, m_tv2, c7, c20, c71, c71n, c84, ↓reduceIte]⟩) dX5_takesVote_88
    · refine n_iconst hC 0 dX5_takesVote_23 ?_
      exact q_zret (v := 0) hC hG hr hlk (by first | decide | omega) (⟨by simp only [m_tv, m_tv2, c7, c20, ↓reduceIte], by simp only [m_tv, m_tv2, c7, c20, ↓reduceIte]⟩) dX5_takesVote_24

def m_ask2 (n f : Nat) (M : MM) (i s d : Nat) : Nat × MM :=
  if M 5 i = 1 then
    (if m_cnt (up2 M 11 (5 * i + s) 1) 11 (5 * i) n < f then (if M 11 (5 * i + s) = 0 then 1 else d, up2 M 11 (5 * i + s) 1)
    else if M 8 i = 0 then
      (if m_fst n (up2 (up2 M 11 (5 * i + s) 1) 8 i 1) i = 0 then (if M 11 (5 * i + s) = 0 then 1 else d, m_post (up2 (up2 M 11 (5 * i + s) 1) 8 i 1) i (M 6 i % n) 4 (M 6 i) (M 7 i))
      else (if M 11 (5 * i + s) = 0 then 1 else d, (m_tv n f (up2 (up2 M 11 (5 * i + s) 1) 8 i 1) i i i (M 7 i)).2))
    else (if M 11 (5 * i + s) = 0 then 1 else d, up2 M 11 (5 * i + s) 1))
  else (d, M)
def m_ask (n f : Nat) (M : MM) (i s v : Nat) : Nat × MM := if v ≤ M 6 i then m_ask2 n f M i s 0 else m_ask2 n f (m_chg n M i v) i s 1
theorem bM_ask2 {n f : Nat} {M : MM} (h : bM M) {i s d : Nat} (hi : i < 2147483648) (hn : n < 2147483648) : bM (m_ask2 n f M i s d).2 := by
  have h6 := h.1 6 i rfl
  have h7 := h.1 7 i rfl
  have h1 := bM_up h 11 (5 * i + s) (v := 1) (by decide)
  have h2 := bM_up h1 8 i (v := 1) (by decide)
  unfold m_ask2
  split
  · split
    · exact h1
    · split
      · split
        · exact bM_post h2 hi (Nat.lt_of_le_of_lt (Nat.mod_le _ _) h6) (by decide) h6 h7
        · exact bM_tv h2 hi hn h7
      · exact h1
  · exact h
theorem bM_ask {n f : Nat} {M : MM} (h : bM M) {i s v : Nat} (hi : i < 2147483648) (hn : n < 2147483648) (hv : v < 2147483648) : bM (m_ask n f M i s v).2 := by
  unfold m_ask
  split
  · exact bM_ask2 h hi hn
  · exact bM_ask2 (bM_chg h hi hn hv) hi hn
theorem m_ask2_le (n f : Nat) (M : MM) (i s d : Nat) (hd : d ≤ 1) : (m_ask2 n f M i s d).1 ≤ 1 := by
  unfold m_ask2
  split
  · split
    · show (if M 11 (5 * i + s) = 0 then 1 else d) ≤ 1; split <;> omega
    · split
      · split
        · show (if M 11 (5 * i + s) = 0 then 1 else d) ≤ 1; split <;> omega
        · show (if M 11 (5 * i + s) = 0 then 1 else d) ≤ 1; split <;> omega
      · show (if M 11 (5 * i + s) = 0 then 1 else d) ≤ 1; split <;> omega
  · exact hd
theorem m_ask_le (n f : Nat) (M : MM) (i s v : Nat) : (m_ask n f M i s v).1 ≤ 1 := by
  unfold m_ask
  split
  · exact m_ask2_le n f _ i s 0 (by decide)
  · exact m_ask2_le n f _ i s 1 (by decide)
def m_vot (n f : Nat) (M : MM) (i s g v c : Nat) : Nat × MM :=
  if v % n = i then
    (if v ≤ M 6 i then m_tv n f M i s g c else (1, (m_tv n f (m_chg n M i v) i s g c).2))
  else (0, M)
theorem bM_vot {n f : Nat} {M : MM} (h : bM M) {i s g v c : Nat} (hi : i < 2147483648) (hn : n < 2147483648) (hv : v < 2147483648) (hc : c < 2147483648) : bM (m_vot n f M i s g v c).2 := by
  unfold m_vot
  split
  · split
    · exact bM_tv h hi hn hc
    · exact bM_tv (bM_chg h hi hn hv) hi hn hc
  · exact h
theorem m_vot_le (n f : Nat) (M : MM) (i s g v c : Nat) : (m_vot n f M i s g v c).1 ≤ 1 := by
  unfold m_vot
  split
  · split
    · exact m_tv_le n f M i s g c
    · exact Nat.le_refl 1
  · exact Nat.zero_le 1

abbrev rmX5_isAsked : Room := { frames := 4, cells := 0, slots := 0, locals := 102 }
set_option maxHeartbeats 4000000 in
set_option maxRecDepth 100000 in
theorem k_X5_isAsked (l : Launch) (D : va_G) (cA : Nat → ClassId) (A : Nat → Prop) {mb n f : Nat} {X : Mem} {M : MM} (hS : mS mb n f X) (hB : bM M) (i s0 v : Nat) (hi : i < n) (hs : s0 < n) (hv : v < 2147483648) : mt l D cA A yX5_isAsked wsX5_isAsked rmX5_isAsked [.ref mb, .int (nI i), .int (nI s0), .int (nI v)] (sM mb X M) (fun w Y => w = some (.int (nI (m_ask n f M i s0 v).1)) ∧ Y = sM mb X (m_ask n f M i s0 v).2) := by
  refine q_start (by decide) rfl (Nat.le_of_ble_eq_true rfl) (fun p e s m args below meth c H locs hC hr hlk hnm hG ls hl => ?_)
  have hl : lv_has ls 6 [(0, .ref mb), (1, .int (nI i)), (2, .int (nI s0)), (3, .int (nI v))] := hl
  have hx := hC.1.1
  have hb := hC.1.2.1
  have hts := hC.1.2.2.2.2
  have i5 : ∀ w ∈ wsX50, w ∈ wsX5_isAsked := by decide +kernel
  have hnf := hS.2.2.2.2
  have k19 := hts (.fieldLink RX5 19 "ViewStampsModel" "status" "[I") (by decide +kernel)
  have k22 := hts (.fieldLink RX5 22 "ViewStampsModel" "view" "[I") (by decide +kernel)
  have k25 := hts (.fieldLink RX5 25 "ViewStampsModel" "lastView" "[I") (by decide +kernel)
  have k28 := hts (.fieldLink RX5 28 "ViewStampsModel" "voted" "[Z") (by decide +kernel)
  have k38 := hts (.fieldLink RX5 38 "ViewStampsModel" "isVoter" "[Z") (by decide +kernel)
  have k77 := hts (.fieldLink RX5 77 "ViewStampsModel" "n" "I") (by decide +kernel)
  have k81 := hts (.fieldLink RX5 81 "ViewStampsModel" "f" "I") (by decide +kernel)
  refine n_iconst hC 0 dX5_isAsked_0 ?_
  refine lv_istore (lv' := [(4, .int (nI 0)), (0, .ref mb), (1, .int (nI i)), (2, .int (nI s0)), (3, .int (nI v))]) hx hb dX5_isAsked_1 hl (by decide) rfl (fun ls hl => ?_)
  refine lv_iload_n hx hb dX5_isAsked_3 rfl (lv_at hl 4 rfl) ?_
  refine lv_aload_n hx hb dX5_isAsked_4 rfl (lv_at hl 1 rfl) ?_
  refine q_mg hC hG hS i5 6 rfl k22 dX5_isAsked_5 ?_
  refine lv_iload_n hx hb dX5_isAsked_8 rfl (lv_at hl 2 rfl) ?_
  refine q_ml (N := 5) (w := M 6 i) hC hG hS 6 rfl rfl rfl (by omega) rfl dX5_isAsked_9 ?_
  have b1 : M 6 i < 2147483648 := by have := hB.1 6 i rfl; first | exact this | (simp [up2, m_cp, m_cpk] at this; exact this) | omega
  refine n_le (tgt := 22) hC dX5_isAsked_10 (by decide) (by omega) (by omega) (fun c10 => ?_) (fun c10 => ?_)
  · have c10n := Nat.not_lt.mpr c10
    refine lv_aload_n hx hb dX5_isAsked_22 rfl (lv_at hl 1 rfl) ?_
    refine q_mg hC hG hS i5 5 rfl k19 dX5_isAsked_23 ?_
    refine lv_iload_n hx hb dX5_isAsked_26 rfl (lv_at hl 2 rfl) ?_
    refine q_ml (N := 5) (w := M 5 i) hC hG hS 5 rfl rfl rfl (by omega) rfl dX5_isAsked_27 ?_
    have b2 : M 5 i < 2147483648 := by have := hB.1 5 i rfl; first | exact this | (simp [up2, m_cp, m_cpk] at this; exact this) | omega
    refine n_iconst hC 1 dX5_isAsked_28 ?_
    refine n_eq (tgt := 35) hC dX5_isAsked_29 (by decide) (by omega) (by omega) (fun c29 => ?_) (fun c29 => ?_)
    · refine lv_iload hx hb dX5_isAsked_35 (lv_at hl 0 rfl) ?_
      refine lv_aload_n hx hb dX5_isAsked_37 rfl (lv_at hl 1 rfl) ?_
      refine q_mg hC hG hS i5 11 rfl k38 dX5_isAsked_38 ?_
      refine n_iconst hC 5 dX5_isAsked_41 ?_
      refine lv_iload_n hx hb dX5_isAsked_42 rfl (lv_at hl 2 rfl) ?_
      refine n_imul hC dX5_isAsked_43 ?_
      refine lv_iload_n hx hb dX5_isAsked_44 rfl (lv_at hl 3 rfl) ?_
      refine n_iadd hC dX5_isAsked_45 ?_
      refine q_mlz (N := 25) (w := M 11 ((5 * i) + s0)) hC hG hS 11 rfl rfl rfl (by omega) rfl dX5_isAsked_46 ?_
      have b3 : M 11 ((5 * i) + s0) < 2147483648 := by have := hB.1 11 ((5 * i) + s0) rfl; first | exact this | (simp [up2, m_cp, m_cpk] at this; exact this) | omega
      refine n_ifne (tgt := 54) hC dX5_isAsked_47 (by decide) (by omega) (fun c47 => ?_) (fun c47 => ?_)
      · refine n_iconst hC 0 dX5_isAsked_54 ?_
        refine lv_ior hx hb dX5_isAsked_55 ?_
        rw [show (nI 0 ||| nI 0) = nI 0 from rfl]
        refine lv_istore (lv' := [(4, .int (nI 0)), (0, .ref mb), (1, .int (nI i)), (2, .int (nI s0)), (3, .int (nI v))]) hx hb dX5_isAsked_56 hl (by decide) rfl (fun ls hl => ?_)
        refine lv_aload_n hx hb dX5_isAsked_58 rfl (lv_at hl 1 rfl) ?_
        refine q_mg hC hG hS i5 11 rfl k38 dX5_isAsked_59 ?_
        refine n_iconst hC 5 dX5_isAsked_62 ?_
        refine lv_iload_n hx hb dX5_isAsked_63 rfl (lv_at hl 2 rfl) ?_
        refine n_imul hC dX5_isAsked_64 ?_
        refine lv_iload_n hx hb dX5_isAsked_65 rfl (lv_at hl 3 rfl) ?_
        refine n_iadd hC dX5_isAsked_66 ?_
        refine n_iconst hC 1 dX5_isAsked_67 ?_
        refine q_msz (N := 25) hC hG hS 11 rfl rfl rfl (by omega) (by omega) dX5_isAsked_68 (fun H locs hG => ?_)
        have hB := bM_up hB 11 ((5 * i) + s0) (v := 1) (by omega)
        refine lv_aload_n hx hb dX5_isAsked_69 rfl (lv_at hl 1 rfl) ?_
        refine lv_iload_n hx hb dX5_isAsked_70 rfl (lv_at hl 2 rfl) ?_
        refine q_callV (rest := []) (k_X5_voters l D cA A hS hB i (by omega)) hC hG cF5 hS.1 1 gX5_isAsked_X5_voters rfl (by decide +kernel) ⟨by decide, by decide⟩ rfl hl.1 rfl (by simp [Value.category]) dX5_isAsked_71 ⟨Nat.le_of_ble_eq_true rfl, Nat.le_of_ble_eq_true rfl⟩ (fun v Y H locs hq hG => ?_)
        obtain ⟨rfl, rfl⟩ := hq
        have q71 := m_cnt_le (up2 M 11 ((5 * i) + s0) 1) 11 (5 * i) n
        refine lv_aload_n hx hb dX5_isAsked_74 rfl (lv_at hl 1 rfl) ?_
        refine q_mf hC hG hS i5 k81 dX5_isAsked_75 ?_
        refine n_lt (tgt := 152) hC dX5_isAsked_78 (by decide) (by omega) (by omega) (fun c78 => ?_) (fun c78 => ?_)
        · have c78n := Nat.not_le.mpr c78
          refine lv_iload hx hb dX5_isAsked_152 (lv_at hl 0 rfl) ?_
          exact q_zret (v := 0) hC hG hr hlk (by first | decide | omega) (⟨by simp only [m_ask, m_ask2, c10, c10n, c29, c47, c78, c78n, ↓reduceIte], by simp only [m_ask, m_ask2, c10, c10n, c29, c47, c78, c78n, ↓reduceIte]⟩) dX5_isAsked_154
        · have c78n := Nat.not_lt.mpr c78
          refine lv_aload_n hx hb dX5_isAsked_81 rfl (lv_at hl 1 rfl) ?_
          refine q_mg hC hG hS i5 8 rfl k28 dX5_isAsked_82 ?_
          refine lv_iload_n hx hb dX5_isAsked_85 rfl (lv_at hl 2 rfl) ?_
          refine q_mlz (N := 5) (w := M 8 i) hC hG hS 8 rfl rfl rfl (by omega) (by simp [up2, m_cp, m_cpk]) dX5_isAsked_86 ?_
          have b4 : M 8 i < 2147483648 := by have := hB.1 8 i rfl; first | exact this | (simp [up2, m_cp, m_cpk] at this; exact this) | omega
          refine n_ifne (tgt := 152) hC dX5_isAsked_87 (by decide) (by omega) (fun c87 => ?_) (fun c87 => ?_)
          · refine lv_iload hx hb dX5_isAsked_152 (lv_at hl 0 rfl) ?_
            exact q_zret (v := 0) hC hG hr hlk (by first | decide | omega) (⟨by simp only [m_ask, m_ask2, c10, c10n, c29, c47, c78, c78n, c87, ↓reduceIte], by simp only [m_ask, m_ask2, c10, c10n, c29, c47, c78, c78n, c87, ↓reduceIte]⟩) dX5_isAsked_154
          · refine lv_aload_n hx hb dX5_isAsked_90 rfl (lv_at hl 1 rfl) ?_
            refine q_mg hC hG hS i5 8 rfl k28 dX5_isAsked_91 ?_
            refine lv_iload_n hx hb dX5_isAsked_94 rfl (lv_at hl 2 rfl) ?_
            refine n_iconst hC 1 dX5_isAsked_95 ?_
            refine q_msz (N := 5) hC hG hS 8 rfl rfl rfl (by omega) (by omega) dX5_isAsked_96 (fun H locs hG => ?_)
            have hB := bM_up hB 8 i (v := 1) (by omega)
            refine lv_aload_n hx hb dX5_isAsked_97 rfl (lv_at hl 1 rfl) ?_
            refine lv_iload_n hx hb dX5_isAsked_98 rfl (lv_at hl 2 rfl) ?_
            refine q_callV (rest := []) (k_X5_isFirst l D cA A hS hB i (by omega)) hC hG cF5 hS.1 1 gX5_isAsked_X5_isFirst rfl (by decide +kernel) ⟨by decide, by decide⟩ rfl hl.1 rfl (by simp [Value.category]) dX5_isAsked_99 ⟨Nat.le_of_ble_eq_true rfl, Nat.le_of_ble_eq_true rfl⟩ (fun v Y H locs hq hG => ?_)
            obtain ⟨rfl, rfl⟩ := hq
            have q99 := m_fst_le n (up2 (up2 M 11 ((5 * i) + s0) 1) 8 i 1) i
            refine n_ifeq (tgt := 123) hC dX5_isAsked_102 (by decide) (by omega) (fun c102 => ?_) (fun c102 => ?_)
            · refine lv_aload_n hx hb dX5_isAsked_123 rfl (lv_at hl 1 rfl) ?_
              refine lv_iload_n hx hb dX5_isAsked_124 rfl (lv_at hl 2 rfl) ?_
              refine lv_aload_n hx hb dX5_isAsked_125 rfl (lv_at hl 1 rfl) ?_
              refine q_mg hC hG hS i5 6 rfl k22 dX5_isAsked_126 ?_
              refine lv_iload_n hx hb dX5_isAsked_129 rfl (lv_at hl 2 rfl) ?_
              refine q_ml (N := 5) (w := M 6 i) hC hG hS 6 rfl rfl rfl (by omega) (by simp [up2, m_cp, m_cpk]) dX5_isAsked_130 ?_
              have b5 : M 6 i < 2147483648 := by have := hB.1 6 i rfl; first | exact this | (simp [up2, m_cp, m_cpk] at this; exact this) | omega
              refine lv_aload_n hx hb dX5_isAsked_131 rfl (lv_at hl 1 rfl) ?_
              refine q_mn hC hG hS i5 k77 dX5_isAsked_132 ?_
              refine n_irem hC (by omega) (by omega) (by omega) dX5_isAsked_135 ?_
              have r135 : (M 6 i) % n < n := Nat.mod_lt _ (by omega)
              refine n_iconst hC 4 dX5_isAsked_136 ?_
              refine lv_aload_n hx hb dX5_isAsked_137 rfl (lv_at hl 1 rfl) ?_
              refine q_mg hC hG hS i5 6 rfl k22 dX5_isAsked_138 ?_
              refine lv_iload_n hx hb dX5_isAsked_141 rfl (lv_at hl 2 rfl) ?_
              refine q_ml (N := 5) (w := M 6 i) hC hG hS 6 rfl rfl rfl (by omega) (by simp [up2, m_cp, m_cpk]) dX5_isAsked_142 ?_
              have b6 : M 6 i < 2147483648 := by have := hB.1 6 i rfl; first | exact this | (simp [up2, m_cp, m_cpk] at this; exact this) | omega
              refine lv_aload_n hx hb dX5_isAsked_143 rfl (lv_at hl 1 rfl) ?_
              refine q_mg hC hG hS i5 7 rfl k25 dX5_isAsked_144 ?_
              refine lv_iload_n hx hb dX5_isAsked_147 rfl (lv_at hl 2 rfl) ?_
              refine q_ml (N := 5) (w := M 7 i) hC hG hS 7 rfl rfl rfl (by omega) (by simp [up2, m_cp, m_cpk]) dX5_isAsked_148 ?_
              have b7 : M 7 i < 2147483648 := by have := hB.1 7 i rfl; first | exact this | (simp [up2, m_cp, m_cpk] at this; exact this) | omega
              refine q_callV (rest := []) (k_X5_post l D cA A hS hB i ((M 6 i) % n) 4 (M 6 i) (M 7 i) (by omega) (by omega) (by omega) (by omega) (by omega)) hC hG cF5 hS.1 5 gX5_isAsked_X5_post rfl (by decide +kernel) ⟨by decide, by decide⟩ rfl hl.1 rfl (by simp [Value.category]) dX5_isAsked_149 ⟨Nat.le_of_ble_eq_true rfl, Nat.le_of_ble_eq_true rfl⟩ (fun v Y H locs hq hG => ?_)
              obtain ⟨rfl, rfl⟩ := hq
              have hB := bM_post (i := i) (j := (M 6 i) % n) (k := 4) (v := M 6 i) (c := M 7 i) hB (by omega) (by omega) (by omega) (by omega) (by omega)
              refine lv_iload hx hb dX5_isAsked_152 (lv_at hl 0 rfl) ?_
              exact q_zret (v := 0) hC hG hr hlk (by first | decide | omega) (⟨by simp only [m_ask, m_ask2, c10, c10n, c29, c47, c78, c78n, c87, c102, ↓reduceIte], by simp only [m_ask, m_ask2, c10, c10n, c29, c47, c78, c78n, c87, c102, ↓reduceIte]⟩) dX5_isAsked_154
            · refine lv_aload_n hx hb dX5_isAsked_105 rfl (lv_at hl 1 rfl) ?_
              refine lv_iload_n hx hb dX5_isAsked_106 rfl (lv_at hl 2 rfl) ?_
              refine lv_iload_n hx hb dX5_isAsked_107 rfl (lv_at hl 2 rfl) ?_
              refine lv_iload_n hx hb dX5_isAsked_108 rfl (lv_at hl 2 rfl) ?_
              refine lv_aload_n hx hb dX5_isAsked_109 rfl (lv_at hl 1 rfl) ?_
              refine q_mg hC hG hS i5 7 rfl k25 dX5_isAsked_110 ?_
              refine lv_iload_n hx hb dX5_isAsked_113 rfl (lv_at hl 2 rfl) ?_
              refine q_ml (N := 5) (w := M 7 i) hC hG hS 7 rfl rfl rfl (by omega) (by simp [up2, m_cp, m_cpk]) dX5_isAsked_114 ?_
              have b8 : M 7 i < 2147483648 := by have := hB.1 7 i rfl; first | exact this | (simp [up2, m_cp, m_cpk] at this; exact this) | omega
              refine q_callV (rest := []) (k_X5_takesVote l D cA A hS hB i i i (M 7 i) (by omega) (by omega) (by omega) (by omega)) hC hG cF5 hS.1 4 gX5_isAsked_X5_takesVote rfl (by decide +kernel) ⟨by decide, by decide⟩ rfl hl.1 rfl (by simp [Value.category]) dX5_isAsked_115 ⟨Nat.le_of_ble_eq_true rfl, Nat.le_of_ble_eq_true rfl⟩ (fun v Y H locs hq hG => ?_)
              obtain ⟨rfl, rfl⟩ := hq
              have hB := bM_tv (n := n) (f := f) (i := i) (s := i) (g := i) (c := M 7 i) hB (by omega) (by omega) (by omega)
              have q115 := m_tv_le n f (up2 (up2 M 11 ((5 * i) + s0) 1) 8 i 1) i i i (M 7 i)
              refine lv_istore (lv' := [(5, .int (nI ((m_tv n f (up2 (up2 M 11 ((5 * i) + s0) 1) 8 i 1) i i i (M 7 i)).1))), (4, .int (nI 0)), (0, .ref mb), (1, .int (nI i)), (2, .int (nI s0)), (3, .int (nI v))]) hx hb dX5_isAsked_118 hl (by decide) rfl (fun ls hl => ?_)
              refine lv_goto (tgt := 152) hx hb dX5_isAsked_120 (by decide) ?_
              refine lv_iload hx hb dX5_isAsked_152 (lv_at hl 1 rfl) ?_
              exact q_zret (v := 0) hC hG hr hlk (by first | decide | omega) (⟨by simp only [m_ask, m_ask2, c10, c10n, c29, c47, c78, c78n, c87, c102, ↓reduceIte], by simp only [m_ask, m_ask2, c10, c10n, c29, c47, c78, c78n, c87, c102, ↓reduceIte]⟩) dX5_isAsked_154
      · refine n_iconst hC 1 dX5_isAsked_50 ?_
        refine lv_goto (tgt := 55) hx hb dX5_isAsked_51 (by decide) ?_
        refine lv_ior hx hb dX5_isAsked_55 ?_
        rw [show (nI 0 ||| nI 1) = nI 1 from rfl]
        refine lv_istore (lv' := [(4, .int (nI 1)), (0, .ref mb), (1, .int (nI i)), (2, .int (nI s0)), (3, .int (nI v))]) hx hb dX5_isAsked_56 hl (by decide) rfl (fun ls hl => ?_)
        refine lv_aload_n hx hb dX5_isAsked_58 rfl (lv_at hl 1 rfl) ?_
        refine q_mg hC hG hS i5 11 rfl k38 dX5_isAsked_59 ?_
        refine n_iconst hC 5 dX5_isAsked_62 ?_
        refine lv_iload_n hx hb dX5_isAsked_63 rfl (lv_at hl 2 rfl) ?_
        refine n_imul hC dX5_isAsked_64 ?_
        refine lv_iload_n hx hb dX5_isAsked_65 rfl (lv_at hl 3 rfl) ?_
        refine n_iadd hC dX5_isAsked_66 ?_
        refine n_iconst hC 1 dX5_isAsked_67 ?_
        refine q_msz (N := 25) hC hG hS 11 rfl rfl rfl (by omega) (by omega) dX5_isAsked_68 (fun H locs hG => ?_)
        have hB := bM_up hB 11 ((5 * i) + s0) (v := 1) (by omega)
        refine lv_aload_n hx hb dX5_isAsked_69 rfl (lv_at hl 1 rfl) ?_
        refine lv_iload_n hx hb dX5_isAsked_70 rfl (lv_at hl 2 rfl) ?_
        refine q_callV (rest := []) (k_X5_voters l D cA A hS hB i (by omega)) hC hG cF5 hS.1 1 gX5_isAsked_X5_voters rfl (by decide +kernel) ⟨by decide, by decide⟩ rfl hl.1 rfl (by simp [Value.category]) dX5_isAsked_71 ⟨Nat.le_of_ble_eq_true rfl, Nat.le_of_ble_eq_true rfl⟩ (fun v Y H locs hq hG => ?_)
        obtain ⟨rfl, rfl⟩ := hq
        have q71 := m_cnt_le (up2 M 11 ((5 * i) + s0) 1) 11 (5 * i) n
        refine lv_aload_n hx hb dX5_isAsked_74 rfl (lv_at hl 1 rfl) ?_
        refine q_mf hC hG hS i5 k81 dX5_isAsked_75 ?_
        refine n_lt (tgt := 152) hC dX5_isAsked_78 (by decide) (by omega) (by omega) (fun c78 => ?_) (fun c78 => ?_)
        · have c78n := Nat.not_le.mpr c78
          refine lv_iload hx hb dX5_isAsked_152 (lv_at hl 0 rfl) ?_
          exact q_zret (v := 1) hC hG hr hlk (by first | decide | omega) (⟨by simp only [m_ask, m_ask2, c10, c10n, c29, c47, c78, c78n, ↓reduceIte], by simp only [m_ask, m_ask2, c10, c10n, c29, c47, c78, c78n, ↓reduceIte]⟩) dX5_isAsked_154
        · have c78n := Nat.not_lt.mpr c78
          refine lv_aload_n hx hb dX5_isAsked_81 rfl (lv_at hl 1 rfl) ?_
          refine q_mg hC hG hS i5 8 rfl k28 dX5_isAsked_82 ?_
          refine lv_iload_n hx hb dX5_isAsked_85 rfl (lv_at hl 2 rfl) ?_
          refine q_mlz (N := 5) (w := M 8 i) hC hG hS 8 rfl rfl rfl (by omega) (by simp [up2, m_cp, m_cpk]) dX5_isAsked_86 ?_
          have b9 : M 8 i < 2147483648 := by have := hB.1 8 i rfl; first | exact this | (simp [up2, m_cp, m_cpk] at this; exact this) | omega
          refine n_ifne (tgt := 152) hC dX5_isAsked_87 (by decide) (by omega) (fun c87 => ?_) (fun c87 => ?_)
          · refine lv_iload hx hb dX5_isAsked_152 (lv_at hl 0 rfl) ?_
            exact q_zret (v := 1) hC hG hr hlk (by first | decide | omega) (⟨by simp only [m_ask, m_ask2, c10, c10n, c29, c47, c78, c78n, c87, ↓reduceIte], by simp only [m_ask, m_ask2, c10, c10n, c29, c47, c78, c78n, c87, ↓reduceIte]⟩) dX5_isAsked_154
          · refine lv_aload_n hx hb dX5_isAsked_90 rfl (lv_at hl 1 rfl) ?_
            refine q_mg hC hG hS i5 8 rfl k28 dX5_isAsked_91 ?_
            refine lv_iload_n hx hb dX5_isAsked_94 rfl (lv_at hl 2 rfl) ?_
            refine n_iconst hC 1 dX5_isAsked_95 ?_
            refine q_msz (N := 5) hC hG hS 8 rfl rfl rfl (by omega) (by omega) dX5_isAsked_96 (fun H locs hG => ?_)
            have hB := bM_up hB 8 i (v := 1) (by omega)
            refine lv_aload_n hx hb dX5_isAsked_97 rfl (lv_at hl 1 rfl) ?_
            refine lv_iload_n hx hb dX5_isAsked_98 rfl (lv_at hl 2 rfl) ?_
            refine q_callV (rest := []) (k_X5_isFirst l D cA A hS hB i (by omega)) hC hG cF5 hS.1 1 gX5_isAsked_X5_isFirst rfl (by decide +kernel) ⟨by decide, by decide⟩ rfl hl.1 rfl (by simp [Value.category]) dX5_isAsked_99 ⟨Nat.le_of_ble_eq_true rfl, Nat.le_of_ble_eq_true rfl⟩ (fun v Y H locs hq hG => ?_)
            obtain ⟨rfl, rfl⟩ := hq
            have q99 := m_fst_le n (up2 (up2 M 11 ((5 * i) + s0) 1) 8 i 1) i
            refine n_ifeq (tgt := 123) hC dX5_isAsked_102 (by decide) (by omega) (fun c102 => ?_) (fun c102 => ?_)
            · refine lv_aload_n hx hb dX5_isAsked_123 rfl (lv_at hl 1 rfl) ?_
              refine lv_iload_n hx hb dX5_isAsked_124 rfl (lv_at hl 2 rfl) ?_
              refine lv_aload_n hx hb dX5_isAsked_125 rfl (lv_at hl 1 rfl) ?_
              refine q_mg hC hG hS i5 6 rfl k22 dX5_isAsked_126 ?_
              refine lv_iload_n hx hb dX5_isAsked_129 rfl (lv_at hl 2 rfl) ?_
              refine q_ml (N := 5) (w := M 6 i) hC hG hS 6 rfl rfl rfl (by omega) (by simp [up2, m_cp, m_cpk]) dX5_isAsked_130 ?_
              have b10 : M 6 i < 2147483648 := by have := hB.1 6 i rfl; first | exact this | (simp [up2, m_cp, m_cpk] at this; exact this) | omega
              refine lv_aload_n hx hb dX5_isAsked_131 rfl (lv_at hl 1 rfl) ?_
              refine q_mn hC hG hS i5 k77 dX5_isAsked_132 ?_
              refine n_irem hC (by omega) (by omega) (by omega) dX5_isAsked_135 ?_
              have r135 : (M 6 i) % n < n := Nat.mod_lt _ (by omega)
              refine n_iconst hC 4 dX5_isAsked_136 ?_
              refine lv_aload_n hx hb dX5_isAsked_137 rfl (lv_at hl 1 rfl) ?_
              refine q_mg hC hG hS i5 6 rfl k22 dX5_isAsked_138 ?_
              refine lv_iload_n hx hb dX5_isAsked_141 rfl (lv_at hl 2 rfl) ?_
              refine q_ml (N := 5) (w := M 6 i) hC hG hS 6 rfl rfl rfl (by omega) (by simp [up2, m_cp, m_cpk]) dX5_isAsked_142 ?_
              have b11 : M 6 i < 2147483648 := by have := hB.1 6 i rfl; first | exact this | (simp [up2, m_cp, m_cpk] at this; exact this) | omega
              refine lv_aload_n hx hb dX5_isAsked_143 rfl (lv_at hl 1 rfl) ?_
              refine q_mg hC hG hS i5 7 rfl k25 dX5_isAsked_144 ?_
              refine lv_iload_n hx hb dX5_isAsked_147 rfl (lv_at hl 2 rfl) ?_
              refine q_ml (N := 5) (w := M 7 i) hC hG hS 7 rfl rfl rfl (by omega) (by simp [up2, m_cp, m_cpk]) dX5_isAsked_148 ?_
              have b12 : M 7 i < 2147483648 := by have := hB.1 7 i rfl; first | exact this | (simp [up2, m_cp, m_cpk] at this; exact this) | omega
              refine q_callV (rest := []) (k_X5_post l D cA A hS hB i ((M 6 i) % n) 4 (M 6 i) (M 7 i) (by omega) (by omega) (by omega) (by omega) (by omega)) hC hG cF5 hS.1 5 gX5_isAsked_X5_post rfl (by decide +kernel) ⟨by decide, by decide⟩ rfl hl.1 rfl (by simp [Value.category]) dX5_isAsked_149 ⟨Nat.le_of_ble_eq_true rfl, Nat.le_of_ble_eq_true rfl⟩ (fun v Y H locs hq hG => ?_)
              obtain ⟨rfl, rfl⟩ := hq
              have hB := bM_post (i := i) (j := (M 6 i) % n) (k := 4) (v := M 6 i) (c := M 7 i) hB (by omega) (by omega) (by omega) (by omega) (by omega)
              refine lv_iload hx hb dX5_isAsked_152 (lv_at hl 0 rfl) ?_
              exact q_zret (v := 1) hC hG hr hlk (by first | decide | omega) (⟨by simp only [m_ask, m_ask2, c10, c10n, c29, c47, c78, c78n, c87, c102, ↓reduceIte], by simp only [m_ask, m_ask2, c10, c10n, c29, c47, c78, c78n, c87, c102, ↓reduceIte]⟩) dX5_isAsked_154
            · refine lv_aload_n hx hb dX5_isAsked_105 rfl (lv_at hl 1 rfl) ?_
              refine lv_iload_n hx hb dX5_isAsked_106 rfl (lv_at hl 2 rfl) ?_
              refine lv_iload_n hx hb dX5_isAsked_107 rfl (lv_at hl 2 rfl) ?_
              refine lv_iload_n hx hb dX5_isAsked_108 rfl (lv_at hl 2 rfl) ?_
              refine lv_aload_n hx hb dX5_isAsked_109 rfl (lv_at hl 1 rfl) ?_
              refine q_mg hC hG hS i5 7 rfl k25 dX5_isAsked_110 ?_
              refine lv_iload_n hx hb dX5_isAsked_113 rfl (lv_at hl 2 rfl) ?_
              refine q_ml (N := 5) (w := M 7 i) hC hG hS 7 rfl rfl rfl (by omega) (by simp [up2, m_cp, m_cpk]) dX5_isAsked_114 ?_
              have b13 : M 7 i < 2147483648 := by have := hB.1 7 i rfl; first | exact this | (simp [up2, m_cp, m_cpk] at this; exact this) | omega
              refine q_callV (rest := []) (k_X5_takesVote l D cA A hS hB i i i (M 7 i) (by omega) (by omega) (by omega) (by omega)) hC hG cF5 hS.1 4 gX5_isAsked_X5_takesVote rfl (by decide +kernel) ⟨by decide, by decide⟩ rfl hl.1 rfl (by simp [Value.category]) dX5_isAsked_115 ⟨Nat.le_of_ble_eq_true rfl, Nat.le_of_ble_eq_true rfl⟩ (fun v Y H locs hq hG => ?_)
              obtain ⟨rfl, rfl⟩ := hq
              have hB := bM_tv (n := n) (f := f) (i := i) (s := i) (g := i) (c := M 7 i) hB (by omega) (by omega) (by omega)
              have q115 := m_tv_le n f (up2 (up2 M 11 ((5 * i) + s0) 1) 8 i 1) i i i (M 7 i)
              refine lv_istore (lv' := [(5, .int (nI ((m_tv n f (up2 (up2 M 11 ((5 * i) + s0) 1) 8 i 1) i i i (M 7 i)).1))), (4, .int (nI 1)), (0, .ref mb), (1, .int (nI i)), (2, .int (nI s0)), (3, .int (nI v))]) hx hb dX5_isAsked_118 hl (by decide) rfl (fun ls hl => ?_)
              refine lv_goto (tgt := 152) hx hb dX5_isAsked_120 (by decide) ?_
              refine lv_iload hx hb dX5_isAsked_152 (lv_at hl 1 rfl) ?_
              exact q_zret (v := 1) hC hG hr hlk (by first | decide | omega) (⟨by simp only [m_ask, m_ask2, c10, c10n, c29, c47, c78, c78n, c87, c102, ↓reduceIte], by simp only [m_ask, m_ask2, c10, c10n, c29, c47, c78, c78n, c87, c102, ↓reduceIte]⟩) dX5_isAsked_154
    · refine lv_iload hx hb dX5_isAsked_32 (lv_at hl 0 rfl) ?_
      exact q_zret (v := 0) hC hG hr hlk (by first | decide | omega) (⟨by simp only [m_ask, m_ask2, c10, c10n, c29, ↓reduceIte], by simp only [m_ask, m_ask2, c10, c10n, c29, ↓reduceIte]⟩) dX5_isAsked_34
  · have c10n := Nat.not_le.mpr c10
    refine lv_aload_n hx hb dX5_isAsked_13 rfl (lv_at hl 1 rfl) ?_
    refine lv_iload_n hx hb dX5_isAsked_14 rfl (lv_at hl 2 rfl) ?_
    refine lv_iload_n hx hb dX5_isAsked_15 rfl (lv_at hl 4 rfl) ?_
    refine q_callV (rest := []) (k_X5_changes l D cA A hS hB i v (by omega) (by omega)) hC hG cF5 hS.1 2 gX5_isAsked_X5_changes rfl (by decide +kernel) ⟨by decide, by decide⟩ rfl hl.1 rfl (by simp [Value.category]) dX5_isAsked_16 ⟨Nat.le_of_ble_eq_true rfl, Nat.le_of_ble_eq_true rfl⟩ (fun v Y H locs hq hG => ?_)
    obtain ⟨rfl, rfl⟩ := hq
    have hB := bM_chg (n := n) (i := i) (v := v) hB (by omega) (by omega) (by omega)
    refine n_iconst hC 1 dX5_isAsked_19 ?_
    refine lv_istore (lv' := [(4, .int (nI 1)), (0, .ref mb), (1, .int (nI i)), (2, .int (nI s0)), (3, .int (nI v))]) hx hb dX5_isAsked_20 hl (by decide) rfl (fun ls hl => ?_)
    refine lv_aload_n hx hb dX5_isAsked_22 rfl (lv_at hl 1 rfl) ?_
    refine q_mg hC hG hS i5 5 rfl k19 dX5_isAsked_23 ?_
    refine lv_iload_n hx hb dX5_isAsked_26 rfl (lv_at hl 2 rfl) ?_
    refine q_ml (N := 5) (w := (m_chg n M i v) 5 i) hC hG hS 5 rfl rfl rfl (by omega) rfl dX5_isAsked_27 ?_
    have b14 : (m_chg n M i v) 5 i < 2147483648 := by have := hB.1 5 i rfl; first | exact this | (simp [up2, m_cp, m_cpk] at this; exact this) | omega
    refine n_iconst hC 1 dX5_isAsked_28 ?_
    refine n_eq (tgt := 35) hC dX5_isAsked_29 (by decide) (by omega) (by omega) (fun c29 => ?_) (fun c29 => ?_)
    · refine lv_iload hx hb dX5_isAsked_35 (lv_at hl 0 rfl) ?_
      refine lv_aload_n hx hb dX5_isAsked_37 rfl (lv_at hl 1 rfl) ?_
      refine q_mg hC hG hS i5 11 rfl k38 dX5_isAsked_38 ?_
      refine n_iconst hC 5 dX5_isAsked_41 ?_
      refine lv_iload_n hx hb dX5_isAsked_42 rfl (lv_at hl 2 rfl) ?_
      refine n_imul hC dX5_isAsked_43 ?_
      refine lv_iload_n hx hb dX5_isAsked_44 rfl (lv_at hl 3 rfl) ?_
      refine n_iadd hC dX5_isAsked_45 ?_
      refine q_mlz (N := 25) (w := (m_chg n M i v) 11 ((5 * i) + s0)) hC hG hS 11 rfl rfl rfl (by omega) rfl dX5_isAsked_46 ?_
      have b15 : (m_chg n M i v) 11 ((5 * i) + s0) < 2147483648 := by have := hB.1 11 ((5 * i) + s0) rfl; first | exact this | (simp [up2, m_cp, m_cpk] at this; exact this) | omega
      refine n_ifne (tgt := 54) hC dX5_isAsked_47 (by decide) (by omega) (fun c47 => ?_) (fun c47 => ?_)
      · refine n_iconst hC 0 dX5_isAsked_54 ?_
        refine lv_ior hx hb dX5_isAsked_55 ?_
        rw [show (nI 1 ||| nI 0) = nI 1 from rfl]
        refine lv_istore (lv' := [(4, .int (nI 1)), (0, .ref mb), (1, .int (nI i)), (2, .int (nI s0)), (3, .int (nI v))]) hx hb dX5_isAsked_56 hl (by decide) rfl (fun ls hl => ?_)
        refine lv_aload_n hx hb dX5_isAsked_58 rfl (lv_at hl 1 rfl) ?_
        refine q_mg hC hG hS i5 11 rfl k38 dX5_isAsked_59 ?_
        refine n_iconst hC 5 dX5_isAsked_62 ?_
        refine lv_iload_n hx hb dX5_isAsked_63 rfl (lv_at hl 2 rfl) ?_
        refine n_imul hC dX5_isAsked_64 ?_
        refine lv_iload_n hx hb dX5_isAsked_65 rfl (lv_at hl 3 rfl) ?_
        refine n_iadd hC dX5_isAsked_66 ?_
        refine n_iconst hC 1 dX5_isAsked_67 ?_
        refine q_msz (N := 25) hC hG hS 11 rfl rfl rfl (by omega) (by omega) dX5_isAsked_68 (fun H locs hG => ?_)
        have hB := bM_up hB 11 ((5 * i) + s0) (v := 1) (by omega)
        refine lv_aload_n hx hb dX5_isAsked_69 rfl (lv_at hl 1 rfl) ?_
        refine lv_iload_n hx hb dX5_isAsked_70 rfl (lv_at hl 2 rfl) ?_
        refine q_callV (rest := []) (k_X5_voters l D cA A hS hB i (by omega)) hC hG cF5 hS.1 1 gX5_isAsked_X5_voters rfl (by decide +kernel) ⟨by decide, by decide⟩ rfl hl.1 rfl (by simp [Value.category]) dX5_isAsked_71 ⟨Nat.le_of_ble_eq_true rfl, Nat.le_of_ble_eq_true rfl⟩ (fun v Y H locs hq hG => ?_)
        obtain ⟨rfl, rfl⟩ := hq
        have q71 := m_cnt_le (up2 (m_chg n M i v) 11 ((5 * i) + s0) 1) 11 (5 * i) n
        refine lv_aload_n hx hb dX5_isAsked_74 rfl (lv_at hl 1 rfl) ?_
        refine q_mf hC hG hS i5 k81 dX5_isAsked_75 ?_
        refine n_lt (tgt := 152) hC dX5_isAsked_78 (by decide) (by omega) (by omega) (fun c78 => ?_) (fun c78 => ?_)
        · have c78n := Nat.not_le.mpr c78
          refine lv_iload hx hb dX5_isAsked_152 (lv_at hl 0 rfl) ?_
          exact q_zret (v := 1) hC hG hr hlk (by first | decide | omega) (⟨by simp only [m_ask, m_ask2, c10, c10n, c29, c47, c78, c78n, ↓reduceIte], by simp only [m_ask, m_ask2, c10, c10n, c29, c47, c78, c78n, ↓reduceIte]⟩) dX5_isAsked_154
        · have c78n := Nat.not_lt.mpr c78
          refine lv_aload_n hx hb dX5_isAsked_81 rfl (lv_at hl 1 rfl) ?_
          refine q_mg hC hG hS i5 8 rfl k28 dX5_isAsked_82 ?_
          refine lv_iload_n hx hb dX5_isAsked_85 rfl (lv_at hl 2 rfl) ?_
          refine q_mlz (N := 5) (w := (m_chg n M i v) 8 i) hC hG hS 8 rfl rfl rfl (by omega) (by simp [up2, m_cp, m_cpk]) dX5_isAsked_86 ?_
          have b16 : (m_chg n M i v) 8 i < 2147483648 := by have := hB.1 8 i rfl; first | exact this | (simp [up2, m_cp, m_cpk] at this; exact this) | omega
          refine n_ifne (tgt := 152) hC dX5_isAsked_87 (by decide) (by omega) (fun c87 => ?_) (fun c87 => ?_)
          · refine lv_iload hx hb dX5_isAsked_152 (lv_at hl 0 rfl) ?_
            exact q_zret (v := 1) hC hG hr hlk (by first | decide | omega) (⟨by simp only [m_ask, m_ask2, c10, c10n, c29, c47, c78, c78n, c87, ↓reduceIte], by simp only [m_ask, m_ask2, c10, c10n, c29, c47, c78, c78n, c87, ↓reduceIte]⟩) dX5_isAsked_154
          · refine lv_aload_n hx hb dX5_isAsked_90 rfl (lv_at hl 1 rfl) ?_
            refine q_mg hC hG hS i5 8 rfl k28 dX5_isAsked_91 ?_
            refine lv_iload_n hx hb dX5_isAsked_94 rfl (lv_at hl 2 rfl) ?_
            refine n_iconst hC 1 dX5_isAsked_95 ?_
            refine q_msz (N := 5) hC hG hS 8 rfl rfl rfl (by omega) (by omega) dX5_isAsked_96 (fun H locs hG => ?_)
            have hB := bM_up hB 8 i (v := 1) (by omega)
            refine lv_aload_n hx hb dX5_isAsked_97 rfl (lv_at hl 1 rfl) ?_
            refine lv_iload_n hx hb dX5_isAsked_98 rfl (lv_at hl 2 rfl) ?_
            refine q_callV (rest := []) (k_X5_isFirst l D cA A hS hB i (by omega)) hC hG cF5 hS.1 1 gX5_isAsked_X5_isFirst rfl (by decide +kernel) ⟨by decide, by decide⟩ rfl hl.1 rfl (by simp [Value.category]) dX5_isAsked_99 ⟨Nat.le_of_ble_eq_true rfl, Nat.le_of_ble_eq_true rfl⟩ (fun v Y H locs hq hG => ?_)
            obtain ⟨rfl, rfl⟩ := hq
            have q99 := m_fst_le n (up2 (up2 (m_chg n M i v) 11 ((5 * i) + s0) 1) 8 i 1) i
            refine n_ifeq (tgt := 123) hC dX5_isAsked_102 (by decide) (by omega) (fun c102 => ?_) (fun c102 => ?_)
            · refine lv_aload_n hx hb dX5_isAsked_123 rfl (lv_at hl 1 rfl) ?_
              refine lv_iload_n hx hb dX5_isAsked_124 rfl (lv_at hl 2 rfl) ?_
              refine lv_aload_n hx hb dX5_isAsked_125 rfl (lv_at hl 1 rfl) ?_
              refine q_mg hC hG hS i5 6 rfl k22 dX5_isAsked_126 ?_
              refine lv_iload_n hx hb dX5_isAsked_129 rfl (lv_at hl 2 rfl) ?_
              refine q_ml (N := 5) (w := (m_chg n M i v) 6 i) hC hG hS 6 rfl rfl rfl (by omega) (by simp [up2, m_cp, m_cpk]) dX5_isAsked_130 ?_
              have b17 : (m_chg n M i v) 6 i < 2147483648 := by have := hB.1 6 i rfl; first | exact this | (simp [up2, m_cp, m_cpk] at this; exact this) | omega
              refine lv_aload_n hx hb dX5_isAsked_131 rfl (lv_at hl 1 rfl) ?_
              refine q_mn hC hG hS i5 k77 dX5_isAsked_132 ?_
              refine n_irem hC (by omega) (by omega) (by omega) dX5_isAsked_135 ?_
              have r135 : ((m_chg n M i v) 6 i) % n < n := Nat.mod_lt _ (by omega)
              refine n_iconst hC 4 dX5_isAsked_136 ?_
              refine lv_aload_n hx hb dX5_isAsked_137 rfl (lv_at hl 1 rfl) ?_
              refine q_mg hC hG hS i5 6 rfl k22 dX5_isAsked_138 ?_
              refine lv_iload_n hx hb dX5_isAsked_141 rfl (lv_at hl 2 rfl) ?_
              refine q_ml (N := 5) (w := (m_chg n M i v) 6 i) hC hG hS 6 rfl rfl rfl (by omega) (by simp [up2, m_cp, m_cpk]) dX5_isAsked_142 ?_
              have b18 : (m_chg n M i v) 6 i < 2147483648 := by have := hB.1 6 i rfl; first | exact this | (simp [up2, m_cp, m_cpk] at this; exact this) | omega
              refine lv_aload_n hx hb dX5_isAsked_143 rfl (lv_at hl 1 rfl) ?_
              refine q_mg hC hG hS i5 7 rfl k25 dX5_isAsked_144 ?_
              refine lv_iload_n hx hb dX5_isAsked_147 rfl (lv_at hl 2 rfl) ?_
              refine q_ml (N := 5) (w := (m_chg n M i v) 7 i) hC hG hS 7 rfl rfl rfl (by omega) (by simp [up2, m_cp, m_cpk]) dX5_isAsked_148 ?_
              have b19 : (m_chg n M i v) 7 i < 2147483648 := by have := hB.1 7 i rfl; first | exact this | (simp [up2, m_cp, m_cpk] at this; exact this) | omega
              refine q_callV (rest := []) (k_X5_post l D cA A hS hB i (((m_chg n M i v) 6 i) % n) 4 ((m_chg n M i v) 6 i) ((m_chg n M i v) 7 i) (by omega) (by omega) (by omega) (by omega) (by omega)) hC hG cF5 hS.1 5 gX5_isAsked_X5_post rfl (by decide +kernel) ⟨by decide, by decide⟩ rfl hl.1 rfl (by simp [Value.category]) dX5_isAsked_149 ⟨Nat.le_of_ble_eq_true rfl, Nat.le_of_ble_eq_true rfl⟩ (fun v Y H locs hq hG => ?_)
              obtain ⟨rfl, rfl⟩ := hq
              have hB := bM_post (i := i) (j := ((m_chg n M i v) 6 i) % n) (k := 4) (v := (m_chg n M i v) 6 i) (c := (m_chg n M i v) 7 i) hB (by omega) (by omega) (by omega) (by omega) (by omega)
              refine lv_iload hx hb dX5_isAsked_152 (lv_at hl 0 rfl) ?_
              exact q_zret (v := 1) hC hG hr hlk (by first | decide | omega) (⟨by simp only [m_ask, m_ask2, c10, c10n, c29, c47, c78, c78n, c87, c102, ↓reduceIte], by simp only [m_ask, m_ask2, c10, c10n, c29, c47, c78, c78n, c87, c102, ↓reduceIte]⟩) dX5_isAsked_154
            · refine lv_aload_n hx hb dX5_isAsked_105 rfl (lv_at hl 1 rfl) ?_
              refine lv_iload_n hx hb dX5_isAsked_106 rfl (lv_at hl 2 rfl) ?_
              refine lv_iload_n hx hb dX5_isAsked_107 rfl (lv_at hl 2 rfl) ?_
              refine lv_iload_n hx hb dX5_isAsked_108 rfl (lv_at hl 2 rfl) ?_
              refine lv_aload_n hx hb dX5_isAsked_109 rfl (lv_at hl 1 rfl) ?_
              refine q_mg hC hG hS i5 7 rfl k25 dX5_isAsked_110 ?_
              refine lv_iload_n hx hb dX5_isAsked_113 rfl (lv_at hl 2 rfl) ?_
              refine q_ml (N := 5) (w := (m_chg n M i v) 7 i) hC hG hS 7 rfl rfl rfl (by omega) (by simp [up2, m_cp, m_cpk]) dX5_isAsked_114 ?_
              have b20 : (m_chg n M i v) 7 i < 2147483648 := by have := hB.1 7 i rfl; first | exact this | (simp [up2, m_cp, m_cpk] at this; exact this) | omega
              refine q_callV (rest := []) (k_X5_takesVote l D cA A hS hB i i i ((m_chg n M i v) 7 i) (by omega) (by omega) (by omega) (by omega)) hC hG cF5 hS.1 4 gX5_isAsked_X5_takesVote rfl (by decide +kernel) ⟨by decide, by decide⟩ rfl hl.1 rfl (by simp [Value.category]) dX5_isAsked_115 ⟨Nat.le_of_ble_eq_true rfl, Nat.le_of_ble_eq_true rfl⟩ (fun v Y H locs hq hG => ?_)
              obtain ⟨rfl, rfl⟩ := hq
              have hB := bM_tv (n := n) (f := f) (i := i) (s := i) (g := i) (c := (m_chg n M i v) 7 i) hB (by omega) (by omega) (by omega)
              have q115 := m_tv_le n f (up2 (up2 (m_chg n M i v) 11 ((5 * i) + s0) 1) 8 i 1) i i i ((m_chg n M i v) 7 i)
              refine lv_istore (lv' := [(5, .int (nI ((m_tv n f (up2 (up2 (m_chg n M i v) 11 ((5 * i) + s0) 1) 8 i 1) i i i ((m_chg n M i v) 7 i)).1))), (4, .int (nI 1)), (0, .ref mb), (1, .int (nI i)), (2, .int (nI s0)), (3, .int (nI v))]) hx hb dX5_isAsked_118 hl (by decide) rfl (fun ls hl => ?_)
              refine lv_goto (tgt := 152) hx hb dX5_isAsked_120 (by decide) ?_
              refine lv_iload hx hb dX5_isAsked_152 (lv_at hl 1 rfl) ?_
              exact q_zret (v := 1) hC hG hr hlk (by first | decide | omega) (⟨by simp only [m_ask, m_ask2, c10, c10n, c29, c47, c78, c78n, c87, c102, ↓reduceIte], by simp only [m_ask, m_ask2, c10, c10n, c29, c47, c78, c78n, c87, c102, ↓reduceIte]⟩) dX5_isAsked_154
      · refine n_iconst hC 1 dX5_isAsked_50 ?_
        refine lv_goto (tgt := 55) hx hb dX5_isAsked_51 (by decide) ?_
        refine lv_ior hx hb dX5_isAsked_55 ?_
        rw [show (nI 1 ||| nI 1) = nI 1 from rfl]
        refine lv_istore (lv' := [(4, .int (nI 1)), (0, .ref mb), (1, .int (nI i)), (2, .int (nI s0)), (3, .int (nI v))]) hx hb dX5_isAsked_56 hl (by decide) rfl (fun ls hl => ?_)
        refine lv_aload_n hx hb dX5_isAsked_58 rfl (lv_at hl 1 rfl) ?_
        refine q_mg hC hG hS i5 11 rfl k38 dX5_isAsked_59 ?_
        refine n_iconst hC 5 dX5_isAsked_62 ?_
        refine lv_iload_n hx hb dX5_isAsked_63 rfl (lv_at hl 2 rfl) ?_
        refine n_imul hC dX5_isAsked_64 ?_
        refine lv_iload_n hx hb dX5_isAsked_65 rfl (lv_at hl 3 rfl) ?_
        refine n_iadd hC dX5_isAsked_66 ?_
        refine n_iconst hC 1 dX5_isAsked_67 ?_
        refine q_msz (N := 25) hC hG hS 11 rfl rfl rfl (by omega) (by omega) dX5_isAsked_68 (fun H locs hG => ?_)
        have hB := bM_up hB 11 ((5 * i) + s0) (v := 1) (by omega)
        refine lv_aload_n hx hb dX5_isAsked_69 rfl (lv_at hl 1 rfl) ?_
        refine lv_iload_n hx hb dX5_isAsked_70 rfl (lv_at hl 2 rfl) ?_
        refine q_callV (rest := []) (k_X5_voters l D cA A hS hB i (by omega)) hC hG cF5 hS.1 1 gX5_isAsked_X5_voters rfl (by decide +kernel) ⟨by decide, by decide⟩ rfl hl.1 rfl (by simp [Value.category]) dX5_isAsked_71 ⟨Nat.le_of_ble_eq_true rfl, Nat.le_of_ble_eq_true rfl⟩ (fun v Y H locs hq hG => ?_)
        obtain ⟨rfl, rfl⟩ := hq
        have q71 := m_cnt_le (up2 (m_chg n M i v) 11 ((5 * i) + s0) 1) 11 (5 * i) n
        refine lv_aload_n hx hb dX5_isAsked_74 rfl (lv_at hl 1 rfl) ?_
        refine q_mf hC hG hS i5 k81 dX5_isAsked_75 ?_
        refine n_lt (tgt := 152) hC dX5_isAsked_78 (by decide) (by omega) (by omega) (fun c78 => ?_) (fun c78 => ?_)
        · have c78n := Nat.not_le.mpr c78
          refine lv_iload hx hb dX5_isAsked_152 (lv_at hl 0 rfl) ?_
          exact q_zret (v := 1) hC hG hr hlk (by first | decide | omega) (⟨by simp only [m_ask, m_ask2, c10, c10n, c29, c47, c78, c78n, ↓reduceIte], by simp only [m_ask, m_ask2, c10, c10n, c29, c47, c78, c78n, ↓reduceIte]⟩) dX5_isAsked_154
        · have c78n := Nat.not_lt.mpr c78
          refine lv_aload_n hx hb dX5_isAsked_81 rfl (lv_at hl 1 rfl) ?_
          refine q_mg hC hG hS i5 8 rfl k28 dX5_isAsked_82 ?_
          refine lv_iload_n hx hb dX5_isAsked_85 rfl (lv_at hl 2 rfl) ?_
          refine q_mlz (N := 5) (w := (m_chg n M i v) 8 i) hC hG hS 8 rfl rfl rfl (by omega) (by simp [up2, m_cp, m_cpk]) dX5_isAsked_86 ?_
          have b21 : (m_chg n M i v) 8 i < 2147483648 := by have := hB.1 8 i rfl; first | exact this | (simp [up2, m_cp, m_cpk] at this; exact this) | omega
          refine n_ifne (tgt := 152) hC dX5_isAsked_87 (by decide) (by omega) (fun c87 => ?_) (fun c87 => ?_)
          · refine lv_iload hx hb dX5_isAsked_152 (lv_at hl 0 rfl) ?_
            exact q_zret (v := 1) hC hG hr hlk (by first | decide | omega) (⟨by simp only [m_ask, m_ask2, c10, c10n, c29, c47, c78, c78n, c87, ↓reduceIte], by simp only [m_ask, m_ask2, c10, c10n, c29, c47, c78, c78n, c87, ↓reduceIte]⟩) dX5_isAsked_154
          · refine lv_aload_n hx hb dX5_isAsked_90 rfl (lv_at hl 1 rfl) ?_
            refine q_mg hC hG hS i5 8 rfl k28 dX5_isAsked_91 ?_
            refine lv_iload_n hx hb dX5_isAsked_94 rfl (lv_at hl 2 rfl) ?_
            refine n_iconst hC 1 dX5_isAsked_95 ?_
            refine q_msz (N := 5) hC hG hS 8 rfl rfl rfl (by omega) (by omega) dX5_isAsked_96 (fun H locs hG => ?_)
            have hB := bM_up hB 8 i (v := 1) (by omega)
            refine lv_aload_n hx hb dX5_isAsked_97 rfl (lv_at hl 1 rfl) ?_
            refine lv_iload_n hx hb dX5_isAsked_98 rfl (lv_at hl 2 rfl) ?_
            refine q_callV (rest := []) (k_X5_isFirst l D cA A hS hB i (by omega)) hC hG cF5 hS.1 1 gX5_isAsked_X5_isFirst rfl (by decide +kernel) ⟨by decide, by decide⟩ rfl hl.1 rfl (by simp [Value.category]) dX5_isAsked_99 ⟨Nat.le_of_ble_eq_true rfl, Nat.le_of_ble_eq_true rfl⟩ (fun v Y H locs hq hG => ?_)
            obtain ⟨rfl, rfl⟩ := hq
            have q99 := m_fst_le n (up2 (up2 (m_chg n M i v) 11 ((5 * i) + s0) 1) 8 i 1) i
            refine n_ifeq (tgt := 123) hC dX5_isAsked_102 (by decide) (by omega) (fun c102 => ?_) (fun c102 => ?_)
            · refine lv_aload_n hx hb dX5_isAsked_123 rfl (lv_at hl 1 rfl) ?_
              refine lv_iload_n hx hb dX5_isAsked_124 rfl (lv_at hl 2 rfl) ?_
              refine lv_aload_n hx hb dX5_isAsked_125 rfl (lv_at hl 1 rfl) ?_
              refine q_mg hC hG hS i5 6 rfl k22 dX5_isAsked_126 ?_
              refine lv_iload_n hx hb dX5_isAsked_129 rfl (lv_at hl 2 rfl) ?_
              refine q_ml (N := 5) (w := (m_chg n M i v) 6 i) hC hG hS 6 rfl rfl rfl (by omega) (by simp [up2, m_cp, m_cpk]) dX5_isAsked_130 ?_
              have b22 : (m_chg n M i v) 6 i < 2147483648 := by have := hB.1 6 i rfl; first | exact this | (simp [up2, m_cp, m_cpk] at this; exact this) | omega
              refine lv_aload_n hx hb dX5_isAsked_131 rfl (lv_at hl 1 rfl) ?_
              refine q_mn hC hG hS i5 k77 dX5_isAsked_132 ?_
              refine n_irem hC (by omega) (by omega) (by omega) dX5_isAsked_135 ?_
              have r135 : ((m_chg n M i v) 6 i) % n < n := Nat.mod_lt _ (by omega)
              refine n_iconst hC 4 dX5_isAsked_136 ?_
              refine lv_aload_n hx hb dX5_isAsked_137 rfl (lv_at hl 1 rfl) ?_
              refine q_mg hC hG hS i5 6 rfl k22 dX5_isAsked_138 ?_
              refine lv_iload_n hx hb dX5_isAsked_141 rfl (lv_at hl 2 rfl) ?_
              refine q_ml (N := 5) (w := (m_chg n M i v) 6 i) hC hG hS 6 rfl rfl rfl (by omega) (by simp [up2, m_cp, m_cpk]) dX5_isAsked_142 ?_
              have b23 : (m_chg n M i v) 6 i < 2147483648 := by have := hB.1 6 i rfl; first | exact this | (simp [up2, m_cp, m_cpk] at this; exact this) | omega
              refine lv_aload_n hx hb dX5_isAsked_143 rfl (lv_at hl 1 rfl) ?_
              refine q_mg hC hG hS i5 7 rfl k25 dX5_isAsked_144 ?_
              refine lv_iload_n hx hb dX5_isAsked_147 rfl (lv_at hl 2 rfl) ?_
              refine q_ml (N := 5) (w := (m_chg n M i v) 7 i) hC hG hS 7 rfl rfl rfl (by omega) (by simp [up2, m_cp, m_cpk]) dX5_isAsked_148 ?_
              have b24 : (m_chg n M i v) 7 i < 2147483648 := by have := hB.1 7 i rfl; first | exact this | (simp [up2, m_cp, m_cpk] at this; exact this) | omega
              refine q_callV (rest := []) (k_X5_post l D cA A hS hB i (((m_chg n M i v) 6 i) % n) 4 ((m_chg n M i v) 6 i) ((m_chg n M i v) 7 i) (by omega) (by omega) (by omega) (by omega) (by omega)) hC hG cF5 hS.1 5 gX5_isAsked_X5_post rfl (by decide +kernel) ⟨by decide, by decide⟩ rfl hl.1 rfl (by simp [Value.category]) dX5_isAsked_149 ⟨Nat.le_of_ble_eq_true rfl, Nat.le_of_ble_eq_true rfl⟩ (fun v Y H locs hq hG => ?_)
              obtain ⟨rfl, rfl⟩ := hq
              have hB := bM_post (i := i) (j := ((m_chg n M i v) 6 i) % n) (k := 4) (v := (m_chg n M i v) 6 i) (c := (m_chg n M i v) 7 i) hB (by omega) (by omega) (by omega) (by omega) (by omega)
              refine lv_iload hx hb dX5_isAsked_152 (lv_at hl 0 rfl) ?_
              exact q_zret (v := 1) hC hG hr hlk (by first | decide | omega) (⟨by simp only [m_ask, m_ask2, c10, c10n, c29, c47, c78, c78n, c87, c102, ↓reduceIte], by simp only [m_ask, m_ask2, c10, c10n, c29, c47, c78, c78n, c87, c102, ↓reduceIte]⟩) dX5_isAsked_154
            · refine lv_aload_n hx hb dX5_isAsked_105 rfl (lv_at hl 1 rfl) ?_
              refine lv_iload_n hx hb dX5_isAsked_106 rfl (lv_at hl 2 rfl) ?_
              refine lv_iload_n hx hb dX5_isAsked_107 rfl (lv_at hl 2 rfl) ?_
              refine lv_iload_n hx hb dX5_isAsked_108 rfl (lv_at hl 2 rfl) ?_
              refine lv_aload_n hx hb dX5_isAsked_109 rfl (lv_at hl 1 rfl) ?_
              refine q_mg hC hG hS i5 7 rfl k25 dX5_isAsked_110 ?_
              refine lv_iload_n hx hb dX5_isAsked_113 rfl (lv_at hl 2 rfl) ?_
              refine q_ml (N := 5) (w := (m_chg n M i v) 7 i) hC hG hS 7 rfl rfl rfl (by omega) (by simp [up2, m_cp, m_cpk]) dX5_isAsked_114 ?_
              have b25 : (m_chg n M i v) 7 i < 2147483648 := by have := hB.1 7 i rfl; first | exact this | (simp [up2, m_cp, m_cpk] at this; exact this) | omega
              refine q_callV (rest := []) (k_X5_takesVote l D cA A hS hB i i i ((m_chg n M i v) 7 i) (by omega) (by omega) (by omega) (by omega)) hC hG cF5 hS.1 4 gX5_isAsked_X5_takesVote rfl (by decide +kernel) ⟨by decide, by decide⟩ rfl hl.1 rfl (by simp [Value.category]) dX5_isAsked_115 ⟨Nat.le_of_ble_eq_true rfl, Nat.le_of_ble_eq_true rfl⟩ (fun v Y H locs hq hG => ?_)
              obtain ⟨rfl, rfl⟩ := hq
              have hB := bM_tv (n := n) (f := f) (i := i) (s := i) (g := i) (c := (m_chg n M i v) 7 i) hB (by omega) (by omega) (by omega)
              have q115 := m_tv_le n f (up2 (up2 (m_chg n M i v) 11 ((5 * i) + s0) 1) 8 i 1) i i i ((m_chg n M i v) 7 i)
              refine lv_istore (lv' := [(5, .int (nI ((m_tv n f (up2 (up2 (m_chg n M i v) 11 ((5 * i) + s0) 1) 8 i 1) i i i ((m_chg n M i v) 7 i)).1))), (4, .int (nI 1)), (0, .ref mb), (1, .int (nI i)), (2, .int (nI s0)), (3, .int (nI v))]) hx hb dX5_isAsked_118 hl (by decide) rfl (fun ls hl => ?_)
              refine lv_goto (tgt := 152) hx hb dX5_isAsked_120 (by decide) ?_
              refine lv_iload hx hb dX5_isAsked_152 (lv_at hl 1 rfl) ?_
              exact q_zret (v := 1) hC hG hr hlk (by first | decide | omega) (⟨by simp only [m_ask, m_ask2, c10, c10n, c29, c47, c78, c78n, c87, c102, ↓reduceIte], by simp only [m_ask, m_ask2, c10, c10n, c29, c47, c78, c78n, c87, c102, ↓reduceIte]⟩) dX5_isAsked_154
    · refine lv_iload hx hb dX5_isAsked_32 (lv_at hl 0 rfl) ?_
      exact q_zret (v := 1) hC hG hr hlk (by first | decide | omega) (⟨by simp only [m_ask, m_ask2, c10, c10n, c29, ↓reduceIte], by simp only [m_ask, m_ask2, c10, c10n, c29, ↓reduceIte]⟩) dX5_isAsked_34

abbrev rmX5_isVoted : Room := { frames := 4, cells := 0, slots := 0, locals := 102 }
set_option maxHeartbeats 4000000 in
set_option maxRecDepth 100000 in
theorem k_X5_isVoted (l : Launch) (D : va_G) (cA : Nat → ClassId) (A : Nat → Prop) {mb n f : Nat} {X : Mem} {M : MM} (hS : mS mb n f X) (hB : bM M) (i s0 g0 v c0 : Nat) (hi : i < n) (hs : s0 < n) (hg0 : g0 < 295) (hv : v < 2147483648) (hc0 : c0 < 2147483648) : mt l D cA A yX5_isVoted wsX5_isVoted rmX5_isVoted [.ref mb, .int (nI i), .int (nI s0), .int (nI g0), .int (nI v), .int (nI c0)] (sM mb X M) (fun w Y => w = some (.int (nI (m_vot n f M i s0 g0 v c0).1)) ∧ Y = sM mb X (m_vot n f M i s0 g0 v c0).2) := by
  refine q_start (by decide) rfl (Nat.le_of_ble_eq_true rfl) (fun p e s m args below meth c H locs hC hr hlk hnm hG ls hl => ?_)
  have hl : lv_has ls 7 [(0, .ref mb), (1, .int (nI i)), (2, .int (nI s0)), (3, .int (nI g0)), (4, .int (nI v)), (5, .int (nI c0))] := hl
  have hx := hC.1.1
  have hb := hC.1.2.1
  have hts := hC.1.2.2.2.2
  have i5 : ∀ w ∈ wsX50, w ∈ wsX5_isVoted := by decide +kernel
  have hnf := hS.2.2.2.2
  have k22 := hts (.fieldLink RX5 22 "ViewStampsModel" "view" "[I") (by decide +kernel)
  have k77 := hts (.fieldLink RX5 77 "ViewStampsModel" "n" "I") (by decide +kernel)
  refine lv_iload hx hb dX5_isVoted_0 (lv_at hl 4 rfl) ?_
  refine lv_aload_n hx hb dX5_isVoted_2 rfl (lv_at hl 0 rfl) ?_
  refine q_mn hC hG hS i5 k77 dX5_isVoted_3 ?_
  refine n_irem hC (by omega) (by omega) (by omega) dX5_isVoted_6 ?_
  have r6 : v % n < n := Nat.mod_lt _ (by omega)
  refine lv_iload_n hx hb dX5_isVoted_7 rfl (lv_at hl 1 rfl) ?_
  refine n_eq (tgt := 13) hC dX5_isVoted_8 (by decide) (by omega) (by omega) (fun c8 => ?_) (fun c8 => ?_)
  · refine lv_iload hx hb dX5_isVoted_13 (lv_at hl 4 rfl) ?_
    refine lv_aload_n hx hb dX5_isVoted_15 rfl (lv_at hl 0 rfl) ?_
    refine q_mg hC hG hS i5 6 rfl k22 dX5_isVoted_16 ?_
    refine lv_iload_n hx hb dX5_isVoted_19 rfl (lv_at hl 1 rfl) ?_
    refine q_ml (N := 5) (w := M 6 i) hC hG hS 6 rfl rfl rfl (by omega) rfl dX5_isVoted_20 ?_
    have b1 : M 6 i < 2147483648 := by have := hB.1 6 i rfl; first | exact this | (simp [up2, m_cp, m_cpk] at this; exact this) | omega
    refine n_le (tgt := 28) hC dX5_isVoted_21 (by decide) (by omega) (by omega) (fun c21 => ?_) (fun c21 => ?_)
    · have c21n := Nat.not_lt.mpr c21
      refine n_iconst hC 0 dX5_isVoted_28 ?_
      refine lv_istore (lv' := [(6, .int (nI 0)), (0, .ref mb), (1, .int (nI i)), (2, .int (nI s0)), (3, .int (nI g0)), (4, .int (nI v)), (5, .int (nI c0))]) hx hb dX5_isVoted_29 hl (by decide) rfl (fun ls hl => ?_)
      refine lv_iload hx hb dX5_isVoted_31 (lv_at hl 0 rfl) ?_
      refine n_ifeq (tgt := 43) hC dX5_isVoted_33 (by decide) (by omega) (fun c33 => ?_) (fun c33 => ?_)
      · refine lv_aload_n hx hb dX5_isVoted_43 rfl (lv_at hl 1 rfl) ?_
        refine lv_iload_n hx hb dX5_isVoted_44 rfl (lv_at hl 2 rfl) ?_
        refine lv_iload_n hx hb dX5_isVoted_45 rfl (lv_at hl 3 rfl) ?_
        refine lv_iload_n hx hb dX5_isVoted_46 rfl (lv_at hl 4 rfl) ?_
        refine lv_iload hx hb dX5_isVoted_47 (lv_at hl 6 rfl) ?_
        refine q_callV (rest := []) (k_X5_takesVote l D cA A hS hB i s0 g0 c0 (by omega) (by omega) (by omega) (by omega)) hC hG cF5 hS.1 4 gX5_isVoted_X5_takesVote rfl (by decide +kernel) ⟨by decide, by decide⟩ rfl hl.1 rfl (by simp [Value.category]) dX5_isVoted_49 ⟨Nat.le_of_ble_eq_true rfl, Nat.le_of_ble_eq_true rfl⟩ (fun v Y H locs hq hG => ?_)
        obtain ⟨rfl, rfl⟩ := hq
        have hB := bM_tv (n := n) (f := f) (i := i) (s := s0) (g := g0) (c := c0) hB (by omega) (by omega) (by omega)
        have q49 := m_tv_le n f M i s0 g0 c0
        refine n_ifne (tgt := 60) hC dX5_isVoted_52 (by decide) (by omega) (fun c52 => ?_) (fun c52 => ?_)
        · refine n_iconst hC 1 dX5_isVoted_60 ?_
          refine lv_goto (tgt := 65) hx hb dX5_isVoted_61 (by decide) ?_
          exact q_zret (v := 1) hC hG hr hlk (by first | decide | omega) (⟨by simp only [m_vot, c8, c21, c21n, ↓reduceIte]; try (congr 3; omega), by simp only [m_vot, c8, c21, c21n, ↓reduceIte]⟩) dX5_isVoted_65
        · refine lv_iload hx hb dX5_isVoted_55 (lv_at hl 0 rfl) ?_
          refine n_ifeq (tgt := 64) hC dX5_isVoted_57 (by decide) (by omega) (fun c57 => ?_) (fun c57 => ?_)
          · refine n_iconst hC 0 dX5_isVoted_64 ?_
            exact q_zret (v := 0) hC hG hr hlk (by first | decide | omega) (⟨by simp only [m_vot, c8, c21, c21n, ↓reduceIte]; try (congr 3; omega), by simp only [m_vot, c8, c21, c21n, ↓reduceIte]⟩) dX5_isVoted_65
          · exact absurd c57 (by decide)
      · exact absurd c33 (by decide)
    · have c21n := Nat.not_le.mpr c21
      refine n_iconst hC 1 dX5_isVoted_24 ?_
      refine lv_goto (tgt := 29) hx hb dX5_isVoted_25 (by decide) ?_
      refine lv_istore (lv' := [(6, .int (nI 1)), (0, .ref mb), (1, .int (nI i)), (2, .int (nI s0)), (3, .int (nI g0)), (4, .int (nI v)), (5, .int (nI c0))]) hx hb dX5_isVoted_29 hl (by decide) rfl (fun ls hl => ?_)
      refine lv_iload hx hb dX5_isVoted_31 (lv_at hl 0 rfl) ?_
      refine n_ifeq (tgt := 43) hC dX5_isVoted_33 (by decide) (by omega) (fun c33 => ?_) (fun c33 => ?_)
      · exact absurd c33 (by decide)
      · refine lv_aload_n hx hb dX5_isVoted_36 rfl (lv_at hl 1 rfl) ?_
        refine lv_iload_n hx hb dX5_isVoted_37 rfl (lv_at hl 2 rfl) ?_
        refine lv_iload hx hb dX5_isVoted_38 (lv_at hl 5 rfl) ?_
        refine q_callV (rest := []) (k_X5_changes l D cA A hS hB i v (by omega) (by omega)) hC hG cF5 hS.1 2 gX5_isVoted_X5_changes rfl (by decide +kernel) ⟨by decide, by decide⟩ rfl hl.1 rfl (by simp [Value.category]) dX5_isVoted_40 ⟨Nat.le_of_ble_eq_true rfl, Nat.le_of_ble_eq_true rfl⟩ (fun v Y H locs hq hG => ?_)
        obtain ⟨rfl, rfl⟩ := hq
        have hB := bM_chg (n := n) (i := i) (v := v) hB (by omega) (by omega) (by omega)
        refine lv_aload_n hx hb dX5_isVoted_43 rfl (lv_at hl 1 rfl) ?_
        refine lv_iload_n hx hb dX5_isVoted_44 rfl (lv_at hl 2 rfl) ?_
        refine lv_iload_n hx hb dX5_isVoted_45 rfl (lv_at hl 3 rfl) ?_
        refine lv_iload_n hx hb dX5_isVoted_46 rfl (lv_at hl 4 rfl) ?_
        refine lv_iload hx hb dX5_isVoted_47 (lv_at hl 6 rfl) ?_
        refine q_callV (rest := []) (k_X5_takesVote l D cA A hS hB i s0 g0 c0 (by omega) (by omega) (by omega) (by omega)) hC hG cF5 hS.1 4 gX5_isVoted_X5_takesVote rfl (by decide +kernel) ⟨by decide, by decide⟩ rfl hl.1 rfl (by simp [Value.category]) dX5_isVoted_49 ⟨Nat.le_of_ble_eq_true rfl, Nat.le_of_ble_eq_true rfl⟩ (fun v Y H locs hq hG => ?_)
        obtain ⟨rfl, rfl⟩ := hq
        have hB := bM_tv (n := n) (f := f) (i := i) (s := s0) (g := g0) (c := c0) hB (by omega) (by omega) (by omega)
        have q49 := m_tv_le n f (m_chg n M i v) i s0 g0 c0
        refine n_ifne (tgt := 60) hC dX5_isVoted_52 (by decide) (by omega) (fun c52 => ?_) (fun c52 => ?_)
        · refine n_iconst hC 1 dX5_isVoted_60 ?_
          refine lv_goto (tgt := 65) hx hb dX5_isVoted_61 (by decide) ?_
          exact q_zret (v := 1) hC hG hr hlk (by first | decide | omega) (⟨by simp only [m_vot, c8, c21, c21n, ↓reduceIte]; try (congr 3; omega), by simp only [m_vot, c8, c21, c21n, ↓reduceIte]⟩) dX5_isVoted_65
        · refine lv_iload hx hb dX5_isVoted_55 (lv_at hl 0 rfl) ?_
          refine n_ifeq (tgt := 64) hC dX5_isVoted_57 (by decide) (by omega) (fun c57 => ?_) (fun c57 => ?_)
          · exact absurd c57 (by decide)
          · refine n_iconst hC 1 dX5_isVoted_60 ?_
            refine lv_goto (tgt := 65) hx hb dX5_isVoted_61 (by decide) ?_
            exact q_zret (v := 1) hC hG hr hlk (by first | decide | omega) (⟨by simp only [m_vot, c8, c21, c21n, ↓reduceIte]; try (congr 3; omega), by simp only [m_vot, c8, c21, c21n, ↓reduceIte]⟩) dX5_isVoted_65
  · refine n_iconst hC 0 dX5_isVoted_11 ?_
    exact q_zret (v := 0) hC hG hr hlk (by first | decide | omega) (⟨by simp only [m_vot, c8, ↓reduceIte], by simp only [m_vot, c8, ↓reduceIte]⟩) dX5_isVoted_12

def m_tmx (M : MM) (i : Nat) : Nat → Nat
  | 0 => 0
  | j + 1 => if M 14 (5 * i + j) = 0 then m_tmx M i j else m_gre (m_tmx M i j) (M 15 (5 * i + j))
theorem m_tmx_lt {M : MM} (h : bM M) (i : Nat) : ∀ j, m_tmx M i j < 2147483648 := by
  intro j
  induction j with
  | zero => exact Nat.zero_lt_succ _
  | succ j ih =>
    unfold m_tmx
    split
    · exact ih
    · exact m_gre_le ih (h.1 15 _ rfl)
def m_tal2 (n f : Nat) (M : MM) (i : Nat) : MM :=
  if m_cnt M 14 (5 * i) n ≤ f then M else if M 14 (5 * i + m_tmx M i n % n) = 0 then M else if M 15 (5 * i + m_tmx M i n % n) = m_tmx M i n then
    up2 (up2 (up2 (m_cp M (30 + 5 * i + m_tmx M i n % n) i) 6 i (m_tmx M i n)) 7 i (m_tmx M i n)) 5 i 0 else M
def m_tal (n f : Nat) (M : MM) (i s g v c : Nat) : Nat × MM :=
  if M 5 i = 2 then (if M 9 i = c then (1, m_tal2 n f (m_cp (up2 (up2 M 14 (5 * i + s) 1) 15 (5 * i + s) v) g (30 + 5 * i + s)) i) else (0, M)) else (0, M)
theorem bM_tal {n f : Nat} {M : MM} (h : bM M) {i s g v c : Nat} (hv : v < 2147483648) : bM (m_tal n f M i s g v c).2 := by
  unfold m_tal
  split
  · split
    · have h1 := bM_cp (bM_up (bM_up h 14 (5 * i + s) (v := 1) (by decide)) 15 (5 * i + s) hv) g (30 + 5 * i + s)
      have h2 := m_tmx_lt h1 i n
      unfold m_tal2
      split
      · exact h1
      · split
        · exact h1
        · split
          · exact bM_up (bM_up (bM_up (bM_cp h1 _ i) 6 i h2) 7 i h2) 5 i (by decide)
          · exact h1
    · exact h
  · exact h
theorem m_tal_le (n f : Nat) (M : MM) (i s g v c : Nat) : (m_tal n f M i s g v c).1 ≤ 1 := by
  unfold m_tal
  split <;> (try split)
  all_goals first | exact Nat.zero_le 1 | exact Nat.le_refl 1

abbrev rmX5_hearsTale : Room := { frames := 1, cells := 0, slots := 0, locals := 23 }
set_option maxHeartbeats 4000000 in
set_option maxRecDepth 100000 in
theorem k_X5_hearsTale (l : Launch) (D : va_G) (cA : Nat → ClassId) (A : Nat → Prop) {mb n f : Nat} {X : Mem} {M : MM} (hS : mS mb n f X) (hB : bM M) (i s0 g0 v c0 : Nat) (hi : i < n) (hs : s0 < n) (hg0 : g0 < 295) (hv : v < 2147483648) (hc0 : c0 < 2147483648) : mt l D cA A yX5_hearsTale wsX5_hearsTale rmX5_hearsTale [.ref mb, .int (nI i), .int (nI s0), .int (nI g0), .int (nI v), .int (nI c0)] (sM mb X M) (fun w Y => w = some (.int (nI (m_tal n f M i s0 g0 v c0).1)) ∧ Y = sM mb X (m_tal n f M i s0 g0 v c0).2) := by
  refine q_start (by decide) rfl (Nat.le_of_ble_eq_true rfl) (fun p e s m args below meth c H locs hC hr hlk hnm hG ls hl => ?_)
  have hl : lv_has ls 9 [(0, .ref mb), (1, .int (nI i)), (2, .int (nI s0)), (3, .int (nI g0)), (4, .int (nI v)), (5, .int (nI c0))] := hl
  have hx := hC.1.1
  have hb := hC.1.2.1
  have hts := hC.1.2.2.2.2
  have i5 : ∀ w ∈ wsX50, w ∈ wsX5_hearsTale := by decide +kernel
  have hnf := hS.2.2.2.2
  have k19 := hts (.fieldLink RX5 19 "ViewStampsModel" "status" "[I") (by decide +kernel)
  have k22 := hts (.fieldLink RX5 22 "ViewStampsModel" "view" "[I") (by decide +kernel)
  have k25 := hts (.fieldLink RX5 25 "ViewStampsModel" "lastView" "[I") (by decide +kernel)
  have k32 := hts (.fieldLink RX5 32 "ViewStampsModel" "nonce" "[I") (by decide +kernel)
  have k47 := hts (.fieldLink RX5 47 "ViewStampsModel" "hasTale" "[Z") (by decide +kernel)
  have k50 := hts (.fieldLink RX5 50 "ViewStampsModel" "taleView" "[I") (by decide +kernel)
  have k77 := hts (.fieldLink RX5 77 "ViewStampsModel" "n" "I") (by decide +kernel)
  have k81 := hts (.fieldLink RX5 81 "ViewStampsModel" "f" "I") (by decide +kernel)
  have loop : ∀ (d : Nat) (M1 : MM) (k mx j : Nat) (H : Heap) (locs : List Loc) (ls : Array Slot), n - j < d → j ≤ n → bM M1 → k = m_cnt M1 14 (5 * i) j → mx = m_tmx M1 i j → (1, m_tal2 n f M1 i) = m_tal n f M i s0 g0 v c0 → gw D cA A (sM mb X M1) s.heap H locs → lv_has ls 9 [(0, .ref mb), (1, .int (nI i)), (6, .int (nI k)), (7, .int (nI mx)), (8, .int (nI j))] → W p l e rmX5_hearsTale s m args below meth c H locs 0 0 (MQ below (mQ D cA A (fun w Y => w = some (.int (nI (m_tal n f M i s0 g0 v c0).1)) ∧ Y = sM mb X (m_tal n f M i s0 g0 v c0).2)) args s rmX5_hearsTale.cells rmX5_hearsTale.slots A) (F0 m 68 ls []) := by
    intro d
    induction d with
    | zero => intro M1 k mx j H locs ls hd; exact absurd hd (Nat.not_lt_zero _)
    | succ d ih =>
      intro M1 k mx j H locs ls hd hj hB hk hm hT hG hl
      have hml : mx < 2147483648 := by rw [hm]; exact m_tmx_lt hB i j
      have hkl := m_cnt_le M1 14 (5 * i) j
      refine lv_iload hx hb dX5_hearsTale_68 (lv_at hl 4 rfl) ?_
      refine lv_aload_n hx hb dX5_hearsTale_70 rfl (lv_at hl 0 rfl) ?_
      refine q_mn hC hG hS i5 k77 dX5_hearsTale_71 ?_
      refine n_ge (tgt := 118) hC dX5_hearsTale_74 (by decide) (by omega) (by omega) (fun c74 => ?_) (fun c74 => ?_)
      · have c74n := Nat.not_lt.mpr c74
        have hjn : n = j := by omega
        subst hjn
        refine lv_iload hx hb dX5_hearsTale_118 (lv_at hl 3 rfl) ?_
        refine lv_aload_n hx hb dX5_hearsTale_120 rfl (lv_at hl 0 rfl) ?_
        refine q_mn hC hG hS i5 k77 dX5_hearsTale_121 ?_
        refine n_irem hC (by omega) (by omega) (by omega) dX5_hearsTale_124 ?_
        have r124 : mx % n < n := Nat.mod_lt _ (by omega)
        refine lv_istore (lv' := [(8, .int (nI (mx % n))), (0, .ref mb), (1, .int (nI i)), (6, .int (nI k)), (7, .int (nI mx))]) hx hb dX5_hearsTale_125 hl (by decide) rfl (fun ls hl => ?_)
        refine lv_iload hx hb dX5_hearsTale_127 (lv_at hl 3 rfl) ?_
        refine lv_aload_n hx hb dX5_hearsTale_129 rfl (lv_at hl 1 rfl) ?_
        refine q_mf hC hG hS i5 k81 dX5_hearsTale_130 ?_
        refine n_le (tgt := 203) hC dX5_hearsTale_133 (by decide) (by omega) (by omega) (fun c133 => ?_) (fun c133 => ?_)
        · have c133n := Nat.not_lt.mpr c133
          refine n_iconst hC 1 dX5_hearsTale_203 ?_
          exact q_zret (v := 1) hC hG hr hlk (by first | decide | omega) (⟨by rw [← hT], by rw [← hT, m_tal2, ← hk, ← hm]; simp only [c133, ↓reduceIte]⟩) dX5_hearsTale_204
        · have c133n := Nat.not_le.mpr c133
          refine lv_aload_n hx hb dX5_hearsTale_136 rfl (lv_at hl 1 rfl) ?_
          refine q_mg hC hG hS i5 14 rfl k47 dX5_hearsTale_137 ?_
          refine n_iconst hC 5 dX5_hearsTale_140 ?_
          refine lv_iload_n hx hb dX5_hearsTale_141 rfl (lv_at hl 2 rfl) ?_
          refine n_imul hC dX5_hearsTale_142 ?_
          refine lv_iload hx hb dX5_hearsTale_143 (lv_at hl 0 rfl) ?_
          refine n_iadd hC dX5_hearsTale_145 ?_
          refine q_mlz (N := 25) (w := M1 14 ((5 * i) + (mx % n))) hC hG hS 14 rfl rfl rfl (by omega) rfl dX5_hearsTale_146 ?_
          have b1 : M1 14 ((5 * i) + (mx % n)) < 2147483648 := by have := hB.1 14 ((5 * i) + (mx % n)) rfl; first | exact this | (simp [up2, m_cp, m_cpk] at this; exact this) | omega
          refine n_ifeq (tgt := 203) hC dX5_hearsTale_147 (by decide) (by omega) (fun c147 => ?_) (fun c147 => ?_)
          · refine n_iconst hC 1 dX5_hearsTale_203 ?_
            exact q_zret (v := 1) hC hG hr hlk (by first | decide | omega) (⟨by rw [← hT], by rw [← hT, m_tal2, ← hk, ← hm]; simp only [c133, c147, show ¬ (k ≤ f) from by omega, ↓reduceIte]⟩) dX5_hearsTale_204
          · refine lv_aload_n hx hb dX5_hearsTale_150 rfl (lv_at hl 1 rfl) ?_
            refine q_mg hC hG hS i5 15 rfl k50 dX5_hearsTale_151 ?_
            refine n_iconst hC 5 dX5_hearsTale_154 ?_
            refine lv_iload_n hx hb dX5_hearsTale_155 rfl (lv_at hl 2 rfl) ?_
            refine n_imul hC dX5_hearsTale_156 ?_
            refine lv_iload hx hb dX5_hearsTale_157 (lv_at hl 0 rfl) ?_
            refine n_iadd hC dX5_hearsTale_159 ?_
            refine q_ml (N := 25) (w := M1 15 ((5 * i) + (mx % n))) hC hG hS 15 rfl rfl rfl (by omega) rfl dX5_hearsTale_160 ?_
            have b2 : M1 15 ((5 * i) + (mx % n)) < 2147483648 := by have := hB.1 15 ((5 * i) + (mx % n)) rfl; first | exact this | (simp [up2, m_cp, m_cpk] at this; exact this) | omega
            refine lv_iload hx hb dX5_hearsTale_161 (lv_at hl 4 rfl) ?_
            refine n_ne (tgt := 203) hC dX5_hearsTale_163 (by decide) (by omega) (by omega) (fun c163 => ?_) (fun c163 => ?_)
            · refine n_iconst hC 1 dX5_hearsTale_203 ?_
              exact q_zret (v := 1) hC hG hr hlk (by first | decide | omega) (⟨by rw [← hT], by rw [← hT, m_tal2, ← hk, ← hm]; simp only [c133, c147, c163, show ¬ (k ≤ f) from by omega, ↓reduceIte]⟩) dX5_hearsTale_204
            · refine lv_aload_n hx hb dX5_hearsTale_166 rfl (lv_at hl 1 rfl) ?_
              refine n_bipush hC 30 (by decide) dX5_hearsTale_167 ?_
              refine n_iconst hC 5 dX5_hearsTale_169 ?_
              refine lv_iload_n hx hb dX5_hearsTale_170 rfl (lv_at hl 2 rfl) ?_
              refine n_imul hC dX5_hearsTale_171 ?_
              refine n_iadd hC dX5_hearsTale_172 ?_
              refine lv_iload hx hb dX5_hearsTale_173 (lv_at hl 0 rfl) ?_
              refine n_iadd hC dX5_hearsTale_175 ?_
              refine lv_iload_n hx hb dX5_hearsTale_176 rfl (lv_at hl 2 rfl) ?_
              refine q_callV (rest := []) (k_X5_copyLog l D cA A hS hB ((30 + (5 * i)) + (mx % n)) i (by omega) (by omega)) hC hG cF5 hS.1 2 gX5_hearsTale_X5_copyLog rfl (by decide +kernel) ⟨by decide, by decide⟩ rfl hl.1 rfl (by simp [Value.category]) dX5_hearsTale_177 ⟨Nat.le_of_ble_eq_true rfl, Nat.le_of_ble_eq_true rfl⟩ (fun v Y H locs hq hG => ?_)
              obtain ⟨rfl, rfl⟩ := hq
              have hB := bM_cp hB ((30 + (5 * i)) + (mx % n)) i
              refine lv_aload_n hx hb dX5_hearsTale_180 rfl (lv_at hl 1 rfl) ?_
              refine q_mg hC hG hS i5 6 rfl k22 dX5_hearsTale_181 ?_
              refine lv_iload_n hx hb dX5_hearsTale_184 rfl (lv_at hl 2 rfl) ?_
              refine lv_iload hx hb dX5_hearsTale_185 (lv_at hl 4 rfl) ?_
              refine q_ms (N := 5) hC hG hS 6 rfl rfl rfl (by omega) dX5_hearsTale_187 (fun H locs hG => ?_)
              have hB := bM_up hB 6 i (v := mx) (by omega)
              refine lv_aload_n hx hb dX5_hearsTale_188 rfl (lv_at hl 1 rfl) ?_
              refine q_mg hC hG hS i5 7 rfl k25 dX5_hearsTale_189 ?_
              refine lv_iload_n hx hb dX5_hearsTale_192 rfl (lv_at hl 2 rfl) ?_
              refine lv_iload hx hb dX5_hearsTale_193 (lv_at hl 4 rfl) ?_
              refine q_ms (N := 5) hC hG hS 7 rfl rfl rfl (by omega) dX5_hearsTale_195 (fun H locs hG => ?_)
              have hB := bM_up hB 7 i (v := mx) (by omega)
              refine lv_aload_n hx hb dX5_hearsTale_196 rfl (lv_at hl 1 rfl) ?_
              refine q_mg hC hG hS i5 5 rfl k19 dX5_hearsTale_197 ?_
              refine lv_iload_n hx hb dX5_hearsTale_200 rfl (lv_at hl 2 rfl) ?_
              refine n_iconst hC 0 dX5_hearsTale_201 ?_
              refine q_ms (N := 5) hC hG hS 5 rfl rfl rfl (by omega) dX5_hearsTale_202 (fun H locs hG => ?_)
              have hB := bM_up hB 5 i (v := 0) (by omega)
              refine n_iconst hC 1 dX5_hearsTale_203 ?_
              exact q_zret (v := 1) hC hG hr hlk (by first | decide | omega) (⟨by rw [← hT], by rw [← hT, m_tal2, ← hk, ← hm]; simp only [c133, c147, c163, show ¬ (k ≤ f) from by omega, ↓reduceIte]⟩) dX5_hearsTale_204
      · have c74n := Nat.not_le.mpr c74
        refine lv_aload_n hx hb dX5_hearsTale_77 rfl (lv_at hl 0 rfl) ?_
        refine q_mg hC hG hS i5 14 rfl k47 dX5_hearsTale_78 ?_
        refine n_iconst hC 5 dX5_hearsTale_81 ?_
        refine lv_iload_n hx hb dX5_hearsTale_82 rfl (lv_at hl 1 rfl) ?_
        refine n_imul hC dX5_hearsTale_83 ?_
        refine lv_iload hx hb dX5_hearsTale_84 (lv_at hl 4 rfl) ?_
        refine n_iadd hC dX5_hearsTale_86 ?_
        refine q_mlz (N := 25) (w := M1 14 ((5 * i) + j)) hC hG hS 14 rfl rfl rfl (by omega) rfl dX5_hearsTale_87 ?_
        have b3 : M1 14 ((5 * i) + j) < 2147483648 := by have := hB.1 14 ((5 * i) + j) rfl; first | exact this | (simp [up2, m_cp, m_cpk] at this; exact this) | omega
        refine n_ifeq (tgt := 112) hC dX5_hearsTale_88 (by decide) (by omega) (fun c88 => ?_) (fun c88 => ?_)
        · refine n_iinc (n := 1) (k := 4) (lv' := [(8, .int (nI (j + 1))), (0, .ref mb), (1, .int (nI i)), (6, .int (nI k)), (7, .int (nI mx))]) hC dX5_hearsTale_112 hl rfl (by decide) rfl (fun ls hl => ?_)
          refine lv_goto (tgt := 68) hx hb dX5_hearsTale_115 (by decide) ?_
          exact ih M1 (k) (mx) (j + 1) _ _ _ (by omega) (by omega) hB (by rw [m_cnt, ← hk]; simp only [c88, ↓reduceIte]; try omega) (by rw [m_tmx, ← hm]; simp only [c88, ↓reduceIte]) hT hG (lv_sub hl [1, 2, 3, 4, 0] rfl)
        · refine n_iinc (n := 1) (k := 2) (lv' := [(6, .int (nI (k + 1))), (0, .ref mb), (1, .int (nI i)), (7, .int (nI mx)), (8, .int (nI j))]) hC dX5_hearsTale_91 hl rfl (by decide) rfl (fun ls hl => ?_)
          refine lv_iload hx hb dX5_hearsTale_94 (lv_at hl 3 rfl) ?_
          refine lv_aload_n hx hb dX5_hearsTale_96 rfl (lv_at hl 1 rfl) ?_
          refine q_mg hC hG hS i5 15 rfl k50 dX5_hearsTale_97 ?_
          refine n_iconst hC 5 dX5_hearsTale_100 ?_
          refine lv_iload_n hx hb dX5_hearsTale_101 rfl (lv_at hl 2 rfl) ?_
          refine n_imul hC dX5_hearsTale_102 ?_
          refine lv_iload hx hb dX5_hearsTale_103 (lv_at hl 4 rfl) ?_
          refine n_iadd hC dX5_hearsTale_105 ?_
          refine q_ml (N := 25) (w := M1 15 ((5 * i) + j)) hC hG hS 15 rfl rfl rfl (by omega) rfl dX5_hearsTale_106 ?_
          have b4 : M1 15 ((5 * i) + j) < 2147483648 := by have := hB.1 15 ((5 * i) + j) rfl; first | exact this | (simp [up2, m_cp, m_cpk] at this; exact this) | omega
          refine q_callS (rest := []) (k_X5_greater l D cA A _ mx (M1 15 ((5 * i) + j)) (by omega) (by omega)) hC hG 2 gX5_hearsTale_X5_greater rfl (by decide +kernel) ⟨by decide, by decide⟩ rfl hl.1 rfl (by simp [Value.category]) dX5_hearsTale_107 ⟨Nat.le_of_ble_eq_true rfl, Nat.le_of_ble_eq_true rfl⟩ (fun v Y H locs hq hG => ?_)
          obtain ⟨rfl, rfl⟩ := hq
          have q107 : m_gre mx (M1 15 ((5 * i) + j)) < 2147483648 := m_gre_le (by omega) (by omega)
          refine lv_istore (lv' := [(7, .int (nI (m_gre mx (M1 15 ((5 * i) + j))))), (6, .int (nI (k + 1))), (0, .ref mb), (1, .int (nI i)), (8, .int (nI j))]) hx hb dX5_hearsTale_110 hl (by decide) rfl (fun ls hl => ?_)
          refine n_iinc (n := 1) (k := 4) (lv' := [(8, .int (nI (j + 1))), (7, .int (nI (m_gre mx (M1 15 ((5 * i) + j))))), (6, .int (nI (k + 1))), (0, .ref mb), (1, .int (nI i))]) hC dX5_hearsTale_112 hl rfl (by decide) rfl (fun ls hl => ?_)
          refine lv_goto (tgt := 68) hx hb dX5_hearsTale_115 (by decide) ?_
          exact ih M1 (k + 1) (m_gre mx (M1 15 ((5 * i) + j))) (j + 1) _ _ _ (by omega) (by omega) hB (by rw [m_cnt, ← hk]; simp only [c88, ↓reduceIte]; try omega) (by rw [m_tmx, ← hm]; simp only [c88, ↓reduceIte]) hT hG (lv_sub hl [3, 4, 2, 1, 0] rfl)
  refine lv_aload_n hx hb dX5_hearsTale_0 rfl (lv_at hl 0 rfl) ?_
  refine q_mg hC hG hS i5 5 rfl k19 dX5_hearsTale_1 ?_
  refine lv_iload_n hx hb dX5_hearsTale_4 rfl (lv_at hl 1 rfl) ?_
  refine q_ml (N := 5) (w := M 5 i) hC hG hS 5 rfl rfl rfl (by omega) rfl dX5_hearsTale_5 ?_
  have b5 : M 5 i < 2147483648 := by have := hB.1 5 i rfl; first | exact this | (simp [up2, m_cp, m_cpk] at this; exact this) | omega
  refine n_iconst hC 2 dX5_hearsTale_6 ?_
  refine n_ne (tgt := 21) hC dX5_hearsTale_7 (by decide) (by omega) (by omega) (fun c7 => ?_) (fun c7 => ?_)
  · refine n_iconst hC 0 dX5_hearsTale_21 ?_
    exact q_zret (v := 0) hC hG hr hlk (by first | decide | omega) (⟨by simp only [m_tal, c7, ↓reduceIte], by simp only [m_tal, c7, ↓reduceIte]⟩) dX5_hearsTale_22
  · refine lv_aload_n hx hb dX5_hearsTale_10 rfl (lv_at hl 0 rfl) ?_
    refine q_mg hC hG hS i5 9 rfl k32 dX5_hearsTale_11 ?_
    refine lv_iload_n hx hb dX5_hearsTale_14 rfl (lv_at hl 1 rfl) ?_
    refine q_ml (N := 5) (w := M 9 i) hC hG hS 9 rfl rfl rfl (by omega) rfl dX5_hearsTale_15 ?_
    have b6 : M 9 i < 2147483648 := by have := hB.1 9 i rfl; first | exact this | (simp [up2, m_cp, m_cpk] at this; exact this) | omega
    refine lv_iload hx hb dX5_hearsTale_16 (lv_at hl 5 rfl) ?_
    refine n_eq (tgt := 23) hC dX5_hearsTale_18 (by decide) (by omega) (by omega) (fun c18 => ?_) (fun c18 => ?_)
    · refine lv_aload_n hx hb dX5_hearsTale_23 rfl (lv_at hl 0 rfl) ?_
      refine q_mg hC hG hS i5 14 rfl k47 dX5_hearsTale_24 ?_
      refine n_iconst hC 5 dX5_hearsTale_27 ?_
      refine lv_iload_n hx hb dX5_hearsTale_28 rfl (lv_at hl 1 rfl) ?_
      refine n_imul hC dX5_hearsTale_29 ?_
      refine lv_iload_n hx hb dX5_hearsTale_30 rfl (lv_at hl 2 rfl) ?_
      refine n_iadd hC dX5_hearsTale_31 ?_
      refine n_iconst hC 1 dX5_hearsTale_32 ?_
      refine q_msz (N := 25) hC hG hS 14 rfl rfl rfl (by omega) (by omega) dX5_hearsTale_33 (fun H locs hG => ?_)
      have hB := bM_up hB 14 ((5 * i) + s0) (v := 1) (by omega)
      refine lv_aload_n hx hb dX5_hearsTale_34 rfl (lv_at hl 0 rfl) ?_
      refine q_mg hC hG hS i5 15 rfl k50 dX5_hearsTale_35 ?_
      refine n_iconst hC 5 dX5_hearsTale_38 ?_
      refine lv_iload_n hx hb dX5_hearsTale_39 rfl (lv_at hl 1 rfl) ?_
      refine n_imul hC dX5_hearsTale_40 ?_
      refine lv_iload_n hx hb dX5_hearsTale_41 rfl (lv_at hl 2 rfl) ?_
      refine n_iadd hC dX5_hearsTale_42 ?_
      refine lv_iload hx hb dX5_hearsTale_43 (lv_at hl 4 rfl) ?_
      refine q_ms (N := 25) hC hG hS 15 rfl rfl rfl (by omega) dX5_hearsTale_45 (fun H locs hG => ?_)
      have hB := bM_up hB 15 ((5 * i) + s0) (v := v) (by omega)
      refine lv_aload_n hx hb dX5_hearsTale_46 rfl (lv_at hl 0 rfl) ?_
      refine lv_iload_n hx hb dX5_hearsTale_47 rfl (lv_at hl 3 rfl) ?_
      refine n_bipush hC 30 (by decide) dX5_hearsTale_48 ?_
      refine n_iconst hC 5 dX5_hearsTale_50 ?_
      refine lv_iload_n hx hb dX5_hearsTale_51 rfl (lv_at hl 1 rfl) ?_
      refine n_imul hC dX5_hearsTale_52 ?_
      refine n_iadd hC dX5_hearsTale_53 ?_
      refine lv_iload_n hx hb dX5_hearsTale_54 rfl (lv_at hl 2 rfl) ?_
      refine n_iadd hC dX5_hearsTale_55 ?_
      refine q_callV (rest := []) (k_X5_copyLog l D cA A hS hB g0 ((30 + (5 * i)) + s0) (by omega) (by omega)) hC hG cF5 hS.1 2 gX5_hearsTale_X5_copyLog rfl (by decide +kernel) ⟨by decide, by decide⟩ rfl hl.1 rfl (by simp [Value.category]) dX5_hearsTale_56 ⟨Nat.le_of_ble_eq_true rfl, Nat.le_of_ble_eq_true rfl⟩ (fun v Y H locs hq hG => ?_)
      obtain ⟨rfl, rfl⟩ := hq
      have hB := bM_cp hB g0 ((30 + (5 * i)) + s0)
      refine n_iconst hC 0 dX5_hearsTale_59 ?_
      refine lv_istore (lv' := [(6, .int (nI 0)), (0, .ref mb), (1, .int (nI i)), (2, .int (nI s0)), (3, .int (nI g0)), (4, .int (nI v)), (5, .int (nI c0))]) hx hb dX5_hearsTale_60 hl (by decide) rfl (fun ls hl => ?_)
      refine n_iconst hC 0 dX5_hearsTale_62 ?_
      refine lv_istore (lv' := [(7, .int (nI 0)), (6, .int (nI 0)), (0, .ref mb), (1, .int (nI i)), (2, .int (nI s0)), (3, .int (nI g0)), (4, .int (nI v)), (5, .int (nI c0))]) hx hb dX5_hearsTale_63 hl (by decide) rfl (fun ls hl => ?_)
      refine n_iconst hC 0 dX5_hearsTale_65 ?_
      refine lv_istore (lv' := [(8, .int (nI 0)), (7, .int (nI 0)), (6, .int (nI 0)), (0, .ref mb), (1, .int (nI i)), (2, .int (nI s0)), (3, .int (nI g0)), (4, .int (nI v)), (5, .int (nI c0))]) hx hb dX5_hearsTale_66 hl (by decide) rfl (fun ls hl => ?_)
      exact loop (n + 1) _ 0 0 0 _ _ _ (by omega) (by omega) hB rfl rfl (by simp only [m_tal, c7, c18, ↓reduceIte]) hG (lv_sub hl [3, 4, 2, 1, 0] rfl)
    · refine n_iconst hC 0 dX5_hearsTale_21 ?_
      exact q_zret (v := 0) hC hG hr hlk (by first | decide | omega) (⟨by simp only [m_tal, c7, c18, ↓reduceIte], by simp only [m_tal, c7, c18, ↓reduceIte]⟩) dX5_hearsTale_22
