def m_nd (n : Nat) (M : MM) (i : Nat) (what : Int32) : Int32 :=
  if what = nI 0 then nI (M 5 i) else if what = nI 1 then nI (M 6 i) else if what = nI 2 then nI (M 7 i) else if what = nI 3 then nI (M 3 i) else if what = nI 4 then nI (M 4 i) else if what = nI 5 then (if M 5 i = 1 then nI (m_cnt M 11 (5 * i) n) else nI 0) else if what = nI 6 then (if M 5 i = 1 then nI (m_cnt M 12 (5 * i) n) else nI 0) else if what = nI 7 then (if M 5 i = 1 then (if M 8 i = 0 then nI 0 else nI 1) else nI 0) else if what = nI 8 then (if M 5 i = 2 then nI (m_cnt M 14 (5 * i) n) else nI 0) else -2
def m_node (n : Nat) (M : MM) (node what : Int32) : Int32 := if m_isNode n node = 0 then -2 else m_nd n M (tN node) what

abbrev rmX5_node : Room := { frames := 2, cells := 0, slots := 0, locals := 43 }
set_option maxHeartbeats 4000000 in
set_option maxRecDepth 100000 in
theorem k_X5_node (l : Launch) (D : va_G) (cA : Nat → ClassId) (A : Nat → Prop) {mb n f : Nat} {X : Mem} {M : MM} (hS : mS mb n f X) (hB : bM M) (node what : Int32) : mt l D cA A yX5_node wsX5_node rmX5_node [.ref mb, .int node, .int what] (sM mb X M) (fun w Y => w = some (.int (m_node n M node what)) ∧ Y = sM mb X M) := by
  refine q_start (by decide) rfl (Nat.le_of_ble_eq_true rfl) (fun p e s m args below meth c H locs hC hr hlk hnm hG ls hl => ?_)
  have hl : lv_has ls 4 [(0, .ref mb), (1, .int node), (2, .int what)] := hl
  have hx := hC.1.1
  have hb := hC.1.2.1
  have hts := hC.1.2.2.2.2
  have i5 : ∀ w ∈ wsX50, w ∈ wsX5_node := by decide +kernel
  have hnf := hS.2.2.2.2
  have k13 := hts (.fieldLink RX5 13 "ViewStampsModel" "many" "[I") (by decide +kernel)
  have k16 := hts (.fieldLink RX5 16 "ViewStampsModel" "sure" "[I") (by decide +kernel)
  have k19 := hts (.fieldLink RX5 19 "ViewStampsModel" "status" "[I") (by decide +kernel)
  have k22 := hts (.fieldLink RX5 22 "ViewStampsModel" "view" "[I") (by decide +kernel)
  have k25 := hts (.fieldLink RX5 25 "ViewStampsModel" "lastView" "[I") (by decide +kernel)
  have k28 := hts (.fieldLink RX5 28 "ViewStampsModel" "voted" "[Z") (by decide +kernel)
  refine lv_aload_n hx hb dX5_node_0 rfl (lv_at hl 0 rfl) ?_
  refine lv_iload_n hx hb dX5_node_1 rfl (lv_at hl 1 rfl) ?_
  refine q_callV (rest := []) (k_X5_isNode l D cA A hS hB node) hC hG cF5 hS.1 1 gX5_node_X5_isNode rfl (by decide +kernel) ⟨by decide, by decide⟩ rfl hl.1 rfl (by simp [Value.category]) dX5_node_2 ⟨Nat.le_of_ble_eq_true rfl, Nat.le_of_ble_eq_true rfl⟩ (fun v Y H locs hq hG => ?_)
  obtain ⟨rfl, rfl⟩ := hq
  have q2 : m_isNode n node ≤ 1 := m_in_le _ _ _
  refine n_ifne (tgt := 11) hC dX5_node_5 (by decide) (by omega) (fun c5 => ?_) (fun c5 => ?_)
  · obtain ⟨i, hi, rfl⟩ := m_isNode_of (n := n) (by omega) (by omega) c5
    have t_i : tN (nI i) = i := tN_nI (by omega)
    refine lv_aload_n hx hb dX5_node_11 rfl (lv_at hl 0 rfl) ?_
    refine q_mg hC hG hS i5 5 rfl k19 dX5_node_12 ?_
    refine lv_iload_n hx hb dX5_node_15 rfl (lv_at hl 1 rfl) ?_
    refine q_ml (N := 5) (w := M 5 i) hC hG hS 5 rfl rfl rfl (by omega) rfl dX5_node_16 ?_
    have b1 : M 5 i < 2147483648 := by have := hB.1 5 i rfl; first | exact this | (simp [up2, m_cp, m_cpk] at this; exact this) | omega
    refine n_iconst hC 1 dX5_node_17 ?_
    refine n_ne (tgt := 25) hC dX5_node_18 (by decide) (by omega) (by omega) (fun c18 => ?_) (fun c18 => ?_)
    · refine n_iconst hC 0 dX5_node_25 ?_
      refine lv_istore_n (lv' := [(3, .int (nI 0)), (0, .ref mb), (1, .int (nI i)), (2, .int what)]) hx hb dX5_node_26 rfl hl (by decide) rfl (fun ls hl => ?_)
      refine lv_iload_n hx hb dX5_node_27 rfl (lv_at hl 3 rfl) ?_
      by_cases c28x0 : what = nI 0
      · refine lv_tableIn (off := 52) (tgt := 80) hx hb dX5_node_28 (by rw [c28x0]; decide +kernel) (by rw [c28x0]; decide +kernel) (by rw [c28x0]; decide +kernel) (by decide) ?_
        refine lv_aload_n hx hb dX5_node_80 rfl (lv_at hl 1 rfl) ?_
        refine q_mg hC hG hS i5 5 rfl k19 dX5_node_81 ?_
        refine lv_iload_n hx hb dX5_node_84 rfl (lv_at hl 2 rfl) ?_
        refine q_ml (N := 5) (w := M 5 i) hC hG hS 5 rfl rfl rfl (by omega) rfl dX5_node_85 ?_
        have b2 : M 5 i < 2147483648 := by have := hB.1 5 i rfl; first | exact this | (simp [up2, m_cp, m_cpk] at this; exact this) | omega
        exact q_iret (v := (nI (M 5 i))) hC hG hr hlk (⟨by simp only [m_node, m_nd, if_neg c5, if_neg c18, if_pos c28x0, t_i, ↓reduceIte], rfl⟩) dX5_node_86
      by_cases c28x1 : what = nI 1
      · refine lv_tableIn (off := 59) (tgt := 87) hx hb dX5_node_28 (by rw [c28x1]; decide +kernel) (by rw [c28x1]; decide +kernel) (by rw [c28x1]; decide +kernel) (by decide) ?_
        refine lv_aload_n hx hb dX5_node_87 rfl (lv_at hl 1 rfl) ?_
        refine q_mg hC hG hS i5 6 rfl k22 dX5_node_88 ?_
        refine lv_iload_n hx hb dX5_node_91 rfl (lv_at hl 2 rfl) ?_
        refine q_ml (N := 5) (w := M 6 i) hC hG hS 6 rfl rfl rfl (by omega) rfl dX5_node_92 ?_
        have b3 : M 6 i < 2147483648 := by have := hB.1 6 i rfl; first | exact this | (simp [up2, m_cp, m_cpk] at this; exact this) | omega
        exact q_iret (v := (nI (M 6 i))) hC hG hr hlk (⟨by simp only [m_node, m_nd, if_neg c5, if_neg c18, if_neg c28x0, if_pos c28x1, t_i, ↓reduceIte], rfl⟩) dX5_node_93
      by_cases c28x2 : what = nI 2
      · refine lv_tableIn (off := 66) (tgt := 94) hx hb dX5_node_28 (by rw [c28x2]; decide +kernel) (by rw [c28x2]; decide +kernel) (by rw [c28x2]; decide +kernel) (by decide) ?_
        refine lv_aload_n hx hb dX5_node_94 rfl (lv_at hl 1 rfl) ?_
        refine q_mg hC hG hS i5 7 rfl k25 dX5_node_95 ?_
        refine lv_iload_n hx hb dX5_node_98 rfl (lv_at hl 2 rfl) ?_
        refine q_ml (N := 5) (w := M 7 i) hC hG hS 7 rfl rfl rfl (by omega) rfl dX5_node_99 ?_
        have b4 : M 7 i < 2147483648 := by have := hB.1 7 i rfl; first | exact this | (simp [up2, m_cp, m_cpk] at this; exact this) | omega
        exact q_iret (v := (nI (M 7 i))) hC hG hr hlk (⟨by simp only [m_node, m_nd, if_neg c5, if_neg c18, if_neg c28x0, if_neg c28x1, if_pos c28x2, t_i, ↓reduceIte], rfl⟩) dX5_node_100
      by_cases c28x3 : what = nI 3
      · refine lv_tableIn (off := 73) (tgt := 101) hx hb dX5_node_28 (by rw [c28x3]; decide +kernel) (by rw [c28x3]; decide +kernel) (by rw [c28x3]; decide +kernel) (by decide) ?_
        refine lv_aload_n hx hb dX5_node_101 rfl (lv_at hl 1 rfl) ?_
        refine q_mg hC hG hS i5 3 rfl k13 dX5_node_102 ?_
        refine lv_iload_n hx hb dX5_node_105 rfl (lv_at hl 2 rfl) ?_
        refine q_ml (N := 295) (w := M 3 i) hC hG hS 3 rfl rfl rfl (by omega) rfl dX5_node_106 ?_
        have b5 : M 3 i < 2147483648 := by have := hB.1 3 i rfl; first | exact this | (simp [up2, m_cp, m_cpk] at this; exact this) | omega
        exact q_iret (v := (nI (M 3 i))) hC hG hr hlk (⟨by simp only [m_node, m_nd, if_neg c5, if_neg c18, if_neg c28x0, if_neg c28x1, if_neg c28x2, if_pos c28x3, t_i, ↓reduceIte], rfl⟩) dX5_node_107
      by_cases c28x4 : what = nI 4
      · refine lv_tableIn (off := 80) (tgt := 108) hx hb dX5_node_28 (by rw [c28x4]; decide +kernel) (by rw [c28x4]; decide +kernel) (by rw [c28x4]; decide +kernel) (by decide) ?_
        refine lv_aload_n hx hb dX5_node_108 rfl (lv_at hl 1 rfl) ?_
        refine q_mg hC hG hS i5 4 rfl k16 dX5_node_109 ?_
        refine lv_iload_n hx hb dX5_node_112 rfl (lv_at hl 2 rfl) ?_
        refine q_ml (N := 295) (w := M 4 i) hC hG hS 4 rfl rfl rfl (by omega) rfl dX5_node_113 ?_
        have b6 : M 4 i < 2147483648 := by have := hB.1 4 i rfl; first | exact this | (simp [up2, m_cp, m_cpk] at this; exact this) | omega
        exact q_iret (v := (nI (M 4 i))) hC hG hr hlk (⟨by simp only [m_node, m_nd, if_neg c5, if_neg c18, if_neg c28x0, if_neg c28x1, if_neg c28x2, if_neg c28x3, if_pos c28x4, t_i, ↓reduceIte], rfl⟩) dX5_node_114
      by_cases c28x5 : what = nI 5
      · refine lv_tableIn (off := 87) (tgt := 115) hx hb dX5_node_28 (by rw [c28x5]; decide +kernel) (by rw [c28x5]; decide +kernel) (by rw [c28x5]; decide +kernel) (by decide) ?_
        refine lv_iload_n hx hb dX5_node_115 rfl (lv_at hl 0 rfl) ?_
        refine n_ifeq (tgt := 127) hC dX5_node_116 (by decide) (by omega) (fun c116 => ?_) (fun c116 => ?_)
        · refine n_iconst hC 0 dX5_node_127 ?_
          exact q_iret (v := (nI 0)) hC hG hr hlk (⟨by simp only [m_node, m_nd, if_neg c5, if_neg c18, if_neg c28x0, if_neg c28x1, if_neg c28x2, if_neg c28x3, if_neg c28x4, if_pos c28x5, if_pos c116, t_i, ↓reduceIte], rfl⟩) dX5_node_128
        · exact absurd c116 (by decide)
      by_cases c28x6 : what = nI 6
      · refine lv_tableIn (off := 101) (tgt := 129) hx hb dX5_node_28 (by rw [c28x6]; decide +kernel) (by rw [c28x6]; decide +kernel) (by rw [c28x6]; decide +kernel) (by decide) ?_
        refine lv_iload_n hx hb dX5_node_129 rfl (lv_at hl 0 rfl) ?_
        refine n_ifeq (tgt := 141) hC dX5_node_130 (by decide) (by omega) (fun c130 => ?_) (fun c130 => ?_)
        · refine n_iconst hC 0 dX5_node_141 ?_
          exact q_iret (v := (nI 0)) hC hG hr hlk (⟨by simp only [m_node, m_nd, if_neg c5, if_neg c18, if_neg c28x0, if_neg c28x1, if_neg c28x2, if_neg c28x3, if_neg c28x4, if_neg c28x5, if_pos c28x6, if_pos c130, t_i, ↓reduceIte], rfl⟩) dX5_node_142
        · exact absurd c130 (by decide)
      by_cases c28x7 : what = nI 7
      · refine lv_tableIn (off := 115) (tgt := 143) hx hb dX5_node_28 (by rw [c28x7]; decide +kernel) (by rw [c28x7]; decide +kernel) (by rw [c28x7]; decide +kernel) (by decide) ?_
        refine lv_iload_n hx hb dX5_node_143 rfl (lv_at hl 0 rfl) ?_
        refine n_ifeq (tgt := 160) hC dX5_node_144 (by decide) (by omega) (fun c144 => ?_) (fun c144 => ?_)
        · refine n_iconst hC 0 dX5_node_160 ?_
          exact q_iret (v := (nI 0)) hC hG hr hlk (⟨by simp only [m_node, m_nd, if_neg c5, if_neg c18, if_neg c28x0, if_neg c28x1, if_neg c28x2, if_neg c28x3, if_neg c28x4, if_neg c28x5, if_neg c28x6, if_pos c28x7, if_pos c144, t_i, ↓reduceIte], rfl⟩) dX5_node_161
        · exact absurd c144 (by decide)
      by_cases c28x8 : what = nI 8
      · refine lv_tableIn (off := 134) (tgt := 162) hx hb dX5_node_28 (by rw [c28x8]; decide +kernel) (by rw [c28x8]; decide +kernel) (by rw [c28x8]; decide +kernel) (by decide) ?_
        refine lv_aload_n hx hb dX5_node_162 rfl (lv_at hl 1 rfl) ?_
        refine q_mg hC hG hS i5 5 rfl k19 dX5_node_163 ?_
        refine lv_iload_n hx hb dX5_node_166 rfl (lv_at hl 2 rfl) ?_
        refine q_ml (N := 5) (w := M 5 i) hC hG hS 5 rfl rfl rfl (by omega) rfl dX5_node_167 ?_
        have b7 : M 5 i < 2147483648 := by have := hB.1 5 i rfl; first | exact this | (simp [up2, m_cp, m_cpk] at this; exact this) | omega
        refine n_iconst hC 2 dX5_node_168 ?_
        refine n_ne (tgt := 180) hC dX5_node_169 (by decide) (by omega) (by omega) (fun c169 => ?_) (fun c169 => ?_)
        · refine n_iconst hC 0 dX5_node_180 ?_
          exact q_iret (v := (nI 0)) hC hG hr hlk (⟨by simp only [m_node, m_nd, if_neg c5, if_neg c18, if_neg c28x0, if_neg c28x1, if_neg c28x2, if_neg c28x3, if_neg c28x4, if_neg c28x5, if_neg c28x6, if_neg c28x7, if_pos c28x8, if_neg c169, t_i, ↓reduceIte], rfl⟩) dX5_node_181
        · refine lv_aload_n hx hb dX5_node_172 rfl (lv_at hl 1 rfl) ?_
          refine lv_iload_n hx hb dX5_node_173 rfl (lv_at hl 2 rfl) ?_
          refine q_callV (rest := []) (k_X5_tales l D cA A hS hB i (by omega)) hC hG cF5 hS.1 1 gX5_node_X5_tales rfl (by decide +kernel) ⟨by decide, by decide⟩ rfl hl.1 rfl (by simp [Value.category]) dX5_node_174 ⟨Nat.le_of_ble_eq_true rfl, Nat.le_of_ble_eq_true rfl⟩ (fun v Y H locs hq hG => ?_)
          obtain ⟨rfl, rfl⟩ := hq
          have q174 := m_cnt_le M 14 (5 * i) n
          refine lv_goto (tgt := 181) hx hb dX5_node_177 (by decide) ?_
          exact q_iret (v := (nI (m_cnt M 14 (5 * i) n))) hC hG hr hlk (⟨by simp only [m_node, m_nd, if_neg c5, if_neg c18, if_neg c28x0, if_neg c28x1, if_neg c28x2, if_neg c28x3, if_neg c28x4, if_neg c28x5, if_neg c28x6, if_neg c28x7, if_pos c28x8, if_pos c169, t_i, ↓reduceIte], rfl⟩) dX5_node_181
      refine lv_tableOut (tgt := 182) hx hb dX5_node_28 (sw_out (hi := 8) (fun v hv => by rcases (show v = 0 ∨ v = 1 ∨ v = 2 ∨ v = 3 ∨ v = 4 ∨ v = 5 ∨ v = 6 ∨ v = 7 ∨ v = 8 by omega) with rfl | rfl | rfl | rfl | rfl | rfl | rfl | rfl | rfl <;> assumption)) (by decide) ?_
      refine lv_bipush (v := -2) hx hb dX5_node_182 (by decide) ?_
      exact q_iret (v := (-2)) hC hG hr hlk (⟨by simp only [m_node, m_nd, if_neg c5, if_neg c18, if_neg c28x0, if_neg c28x1, if_neg c28x2, if_neg c28x3, if_neg c28x4, if_neg c28x5, if_neg c28x6, if_neg c28x7, if_neg c28x8, t_i, ↓reduceIte], rfl⟩) dX5_node_184
    · refine n_iconst hC 1 dX5_node_21 ?_
      refine lv_goto (tgt := 26) hx hb dX5_node_22 (by decide) ?_
      refine lv_istore_n (lv' := [(3, .int (nI 1)), (0, .ref mb), (1, .int (nI i)), (2, .int what)]) hx hb dX5_node_26 rfl hl (by decide) rfl (fun ls hl => ?_)
      refine lv_iload_n hx hb dX5_node_27 rfl (lv_at hl 3 rfl) ?_
      by_cases c28x0 : what = nI 0
      · refine lv_tableIn (off := 52) (tgt := 80) hx hb dX5_node_28 (by rw [c28x0]; decide +kernel) (by rw [c28x0]; decide +kernel) (by rw [c28x0]; decide +kernel) (by decide) ?_
        refine lv_aload_n hx hb dX5_node_80 rfl (lv_at hl 1 rfl) ?_
        refine q_mg hC hG hS i5 5 rfl k19 dX5_node_81 ?_
        refine lv_iload_n hx hb dX5_node_84 rfl (lv_at hl 2 rfl) ?_
        refine q_ml (N := 5) (w := M 5 i) hC hG hS 5 rfl rfl rfl (by omega) rfl dX5_node_85 ?_
        have b8 : M 5 i < 2147483648 := by have := hB.1 5 i rfl; first | exact this | (simp [up2, m_cp, m_cpk] at this; exact this) | omega
        exact q_iret (v := (nI (M 5 i))) hC hG hr hlk (⟨by simp only [m_node, m_nd, if_neg c5, if_pos c18, if_pos c28x0, t_i, ↓reduceIte], rfl⟩) dX5_node_86
      by_cases c28x1 : what = nI 1
      · refine lv_tableIn (off := 59) (tgt := 87) hx hb dX5_node_28 (by rw [c28x1]; decide +kernel) (by rw [c28x1]; decide +kernel) (by rw [c28x1]; decide +kernel) (by decide) ?_
        refine lv_aload_n hx hb dX5_node_87 rfl (lv_at hl 1 rfl) ?_
        refine q_mg hC hG hS i5 6 rfl k22 dX5_node_88 ?_
        refine lv_iload_n hx hb dX5_node_91 rfl (lv_at hl 2 rfl) ?_
        refine q_ml (N := 5) (w := M 6 i) hC hG hS 6 rfl rfl rfl (by omega) rfl dX5_node_92 ?_
        have b9 : M 6 i < 2147483648 := by have := hB.1 6 i rfl; first | exact this | (simp [up2, m_cp, m_cpk] at this; exact this) | omega
        exact q_iret (v := (nI (M 6 i))) hC hG hr hlk (⟨by simp only [m_node, m_nd, if_neg c5, if_pos c18, if_neg c28x0, if_pos c28x1, t_i, ↓reduceIte], rfl⟩) dX5_node_93
      by_cases c28x2 : what = nI 2
      · refine lv_tableIn (off := 66) (tgt := 94) hx hb dX5_node_28 (by rw [c28x2]; decide +kernel) (by rw [c28x2]; decide +kernel) (by rw [c28x2]; decide +kernel) (by decide) ?_
        refine lv_aload_n hx hb dX5_node_94 rfl (lv_at hl 1 rfl) ?_
        refine q_mg hC hG hS i5 7 rfl k25 dX5_node_95 ?_
        refine lv_iload_n hx hb dX5_node_98 rfl (lv_at hl 2 rfl) ?_
        refine q_ml (N := 5) (w := M 7 i) hC hG hS 7 rfl rfl rfl (by omega) rfl dX5_node_99 ?_
        have b10 : M 7 i < 2147483648 := by have := hB.1 7 i rfl; first | exact this | (simp [up2, m_cp, m_cpk] at this; exact this) | omega
        exact q_iret (v := (nI (M 7 i))) hC hG hr hlk (⟨by simp only [m_node, m_nd, if_neg c5, if_pos c18, if_neg c28x0, if_neg c28x1, if_pos c28x2, t_i, ↓reduceIte], rfl⟩) dX5_node_100
      by_cases c28x3 : what = nI 3
      · refine lv_tableIn (off := 73) (tgt := 101) hx hb dX5_node_28 (by rw [c28x3]; decide +kernel) (by rw [c28x3]; decide +kernel) (by rw [c28x3]; decide +kernel) (by decide) ?_
        refine lv_aload_n hx hb dX5_node_101 rfl (lv_at hl 1 rfl) ?_
        refine q_mg hC hG hS i5 3 rfl k13 dX5_node_102 ?_
        refine lv_iload_n hx hb dX5_node_105 rfl (lv_at hl 2 rfl) ?_
        refine q_ml (N := 295) (w := M 3 i) hC hG hS 3 rfl rfl rfl (by omega) rfl dX5_node_106 ?_
        have b11 : M 3 i < 2147483648 := by have := hB.1 3 i rfl; first | exact this | (simp [up2, m_cp, m_cpk] at this; exact this) | omega
        exact q_iret (v := (nI (M 3 i))) hC hG hr hlk (⟨by simp only [m_node, m_nd, if_neg c5, if_pos c18, if_neg c28x0, if_neg c28x1, if_neg c28x2, if_pos c28x3, t_i, ↓reduceIte], rfl⟩) dX5_node_107
      by_cases c28x4 : what = nI 4
      · refine lv_tableIn (off := 80) (tgt := 108) hx hb dX5_node_28 (by rw [c28x4]; decide +kernel) (by rw [c28x4]; decide +kernel) (by rw [c28x4]; decide +kernel) (by decide) ?_
        refine lv_aload_n hx hb dX5_node_108 rfl (lv_at hl 1 rfl) ?_
        refine q_mg hC hG hS i5 4 rfl k16 dX5_node_109 ?_
        refine lv_iload_n hx hb dX5_node_112 rfl (lv_at hl 2 rfl) ?_
        refine q_ml (N := 295) (w := M 4 i) hC hG hS 4 rfl rfl rfl (by omega) rfl dX5_node_113 ?_
        have b12 : M 4 i < 2147483648 := by have := hB.1 4 i rfl; first | exact this | (simp [up2, m_cp, m_cpk] at this; exact this) | omega
        exact q_iret (v := (nI (M 4 i))) hC hG hr hlk (⟨by simp only [m_node, m_nd, if_neg c5, if_pos c18, if_neg c28x0, if_neg c28x1, if_neg c28x2, if_neg c28x3, if_pos c28x4, t_i, ↓reduceIte], rfl⟩) dX5_node_114
      by_cases c28x5 : what = nI 5
      · refine lv_tableIn (off := 87) (tgt := 115) hx hb dX5_node_28 (by rw [c28x5]; decide +kernel) (by rw [c28x5]; decide +kernel) (by rw [c28x5]; decide +kernel) (by decide) ?_
        refine lv_iload_n hx hb dX5_node_115 rfl (lv_at hl 0 rfl) ?_
        refine n_ifeq (tgt := 127) hC dX5_node_116 (by decide) (by omega) (fun c116 => ?_) (fun c116 => ?_)
        · exact absurd c116 (by decide)
        · refine lv_aload_n hx hb dX5_node_119 rfl (lv_at hl 1 rfl) ?_
          refine lv_iload_n hx hb dX5_node_120 rfl (lv_at hl 2 rfl) ?_
          refine q_callV (rest := []) (k_X5_voters l D cA A hS hB i (by omega)) hC hG cF5 hS.1 1 gX5_node_X5_voters rfl (by decide +kernel) ⟨by decide, by decide⟩ rfl hl.1 rfl (by simp [Value.category]) dX5_node_121 ⟨Nat.le_of_ble_eq_true rfl, Nat.le_of_ble_eq_true rfl⟩ (fun v Y H locs hq hG => ?_)
          obtain ⟨rfl, rfl⟩ := hq
          have q121 := m_cnt_le M 11 (5 * i) n
          refine lv_goto (tgt := 128) hx hb dX5_node_124 (by decide) ?_
          exact q_iret (v := (nI (m_cnt M 11 (5 * i) n))) hC hG hr hlk (⟨by simp only [m_node, m_nd, if_neg c5, if_pos c18, if_neg c28x0, if_neg c28x1, if_neg c28x2, if_neg c28x3, if_neg c28x4, if_pos c28x5, if_neg c116, t_i, ↓reduceIte], rfl⟩) dX5_node_128
      by_cases c28x6 : what = nI 6
      · refine lv_tableIn (off := 101) (tgt := 129) hx hb dX5_node_28 (by rw [c28x6]; decide +kernel) (by rw [c28x6]; decide +kernel) (by rw [c28x6]; decide +kernel) (by decide) ?_
        refine lv_iload_n hx hb dX5_node_129 rfl (lv_at hl 0 rfl) ?_
        refine n_ifeq (tgt := 141) hC dX5_node_130 (by decide) (by omega) (fun c130 => ?_) (fun c130 => ?_)
        · exact absurd c130 (by decide)
        · refine lv_aload_n hx hb dX5_node_133 rfl (lv_at hl 1 rfl) ?_
          refine lv_iload_n hx hb dX5_node_134 rfl (lv_at hl 2 rfl) ?_
          refine q_callV (rest := []) (k_X5_votes l D cA A hS hB i (by omega)) hC hG cF5 hS.1 1 gX5_node_X5_votes rfl (by decide +kernel) ⟨by decide, by decide⟩ rfl hl.1 rfl (by simp [Value.category]) dX5_node_135 ⟨Nat.le_of_ble_eq_true rfl, Nat.le_of_ble_eq_true rfl⟩ (fun v Y H locs hq hG => ?_)
          obtain ⟨rfl, rfl⟩ := hq
          have q135 := m_cnt_le M 12 (5 * i) n
          refine lv_goto (tgt := 142) hx hb dX5_node_138 (by decide) ?_
          exact q_iret (v := (nI (m_cnt M 12 (5 * i) n))) hC hG hr hlk (⟨by simp only [m_node, m_nd, if_neg c5, if_pos c18, if_neg c28x0, if_neg c28x1, if_neg c28x2, if_neg c28x3, if_neg c28x4, if_neg c28x5, if_pos c28x6, if_neg c130, t_i, ↓reduceIte], rfl⟩) dX5_node_142
      by_cases c28x7 : what = nI 7
      · refine lv_tableIn (off := 115) (tgt := 143) hx hb dX5_node_28 (by rw [c28x7]; decide +kernel) (by rw [c28x7]; decide +kernel) (by rw [c28x7]; decide +kernel) (by decide) ?_
        refine lv_iload_n hx hb dX5_node_143 rfl (lv_at hl 0 rfl) ?_
        refine n_ifeq (tgt := 160) hC dX5_node_144 (by decide) (by omega) (fun c144 => ?_) (fun c144 => ?_)
        · exact absurd c144 (by decide)
        · refine lv_aload_n hx hb dX5_node_147 rfl (lv_at hl 1 rfl) ?_
          refine q_mg hC hG hS i5 8 rfl k28 dX5_node_148 ?_
          refine lv_iload_n hx hb dX5_node_151 rfl (lv_at hl 2 rfl) ?_
          refine q_mlz (N := 5) (w := M 8 i) hC hG hS 8 rfl rfl rfl (by omega) rfl dX5_node_152 ?_
          have b13 : M 8 i < 2147483648 := by have := hB.1 8 i rfl; first | exact this | (simp [up2, m_cp, m_cpk] at this; exact this) | omega
          refine n_ifeq (tgt := 160) hC dX5_node_153 (by decide) (by omega) (fun c153 => ?_) (fun c153 => ?_)
          · refine n_iconst hC 0 dX5_node_160 ?_
            exact q_iret (v := (nI 0)) hC hG hr hlk (⟨by simp only [m_node, m_nd, if_neg c5, if_pos c18, if_neg c28x0, if_neg c28x1, if_neg c28x2, if_neg c28x3, if_neg c28x4, if_neg c28x5, if_neg c28x6, if_pos c28x7, if_neg c144, if_pos c153, t_i, ↓reduceIte], rfl⟩) dX5_node_161
          · refine n_iconst hC 1 dX5_node_156 ?_
            refine lv_goto (tgt := 161) hx hb dX5_node_157 (by decide) ?_
            exact q_iret (v := (nI 1)) hC hG hr hlk (⟨by simp only [m_node, m_nd, if_neg c5, if_pos c18, if_neg c28x0, if_neg c28x1, if_neg c28x2, if_neg c28x3, if_neg c28x4, if_neg c28x5, if_neg c28x6, if_pos c28x7, if_neg c144, if_neg c153, t_i, ↓reduceIte], rfl⟩) dX5_node_161
      by_cases c28x8 : what = nI 8
      · refine lv_tableIn (off := 134) (tgt := 162) hx hb dX5_node_28 (by rw [c28x8]; decide +kernel) (by rw [c28x8]; decide +kernel) (by rw [c28x8]; decide +kernel) (by decide) ?_
        refine lv_aload_n hx hb dX5_node_162 rfl (lv_at hl 1 rfl) ?_
        refine q_mg hC hG hS i5 5 rfl k19 dX5_node_163 ?_
        refine lv_iload_n hx hb dX5_node_166 rfl (lv_at hl 2 rfl) ?_
        refine q_ml (N := 5) (w := M 5 i) hC hG hS 5 rfl rfl rfl (by omega) rfl dX5_node_167 ?_
        have b14 : M 5 i < 2147483648 := by have := hB.1 5 i rfl; first | exact this | (simp [up2, m_cp, m_cpk] at this; exact this) | omega
        refine n_iconst hC 2 dX5_node_168 ?_
        refine n_ne (tgt := 180) hC dX5_node_169 (by decide) (by omega) (by omega) (fun c169 => ?_) (fun c169 => ?_)
        · refine n_iconst hC 0 dX5_node_180 ?_
          exact q_iret (v := (nI 0)) hC hG hr hlk (⟨by simp only [m_node, m_nd, if_neg c5, if_pos c18, if_neg c28x0, if_neg c28x1, if_neg c28x2, if_neg c28x3, if_neg c28x4, if_neg c28x5, if_neg c28x6, if_neg c28x7, if_pos c28x8, if_neg c169, t_i, ↓reduceIte], rfl⟩) dX5_node_181
        · refine lv_aload_n hx hb dX5_node_172 rfl (lv_at hl 1 rfl) ?_
          refine lv_iload_n hx hb dX5_node_173 rfl (lv_at hl 2 rfl) ?_
          refine q_callV (rest := []) (k_X5_tales l D cA A hS hB i (by omega)) hC hG cF5 hS.1 1 gX5_node_X5_tales rfl (by decide +kernel) ⟨by decide, by decide⟩ rfl hl.1 rfl (by simp [Value.category]) dX5_node_174 ⟨Nat.le_of_ble_eq_true rfl, Nat.le_of_ble_eq_true rfl⟩ (fun v Y H locs hq hG => ?_)
          obtain ⟨rfl, rfl⟩ := hq
          have q174 := m_cnt_le M 14 (5 * i) n
          refine lv_goto (tgt := 181) hx hb dX5_node_177 (by decide) ?_
          exact q_iret (v := (nI (m_cnt M 14 (5 * i) n))) hC hG hr hlk (⟨by simp only [m_node, m_nd, if_neg c5, if_pos c18, if_neg c28x0, if_neg c28x1, if_neg c28x2, if_neg c28x3, if_neg c28x4, if_neg c28x5, if_neg c28x6, if_neg c28x7, if_pos c28x8, if_pos c169, t_i, ↓reduceIte], rfl⟩) dX5_node_181
      refine lv_tableOut (tgt := 182) hx hb dX5_node_28 (sw_out (hi := 8) (fun v hv => by rcases (show v = 0 ∨ v = 1 ∨ v = 2 ∨ v = 3 ∨ v = 4 ∨ v = 5 ∨ v = 6 ∨ v = 7 ∨ v = 8 by omega) with rfl | rfl | rfl | rfl | rfl | rfl | rfl | rfl | rfl <;> assumption)) (by decide) ?_
      refine lv_bipush (v := -2) hx hb dX5_node_182 (by decide) ?_
      exact q_iret (v := (-2)) hC hG hr hlk (⟨by simp only [m_node, m_nd, if_neg c5, if_pos c18, if_neg c28x0, if_neg c28x1, if_neg c28x2, if_neg c28x3, if_neg c28x4, if_neg c28x5, if_neg c28x6, if_neg c28x7, if_neg c28x8, t_i, ↓reduceIte], rfl⟩) dX5_node_184
  · refine lv_bipush (v := -2) hx hb dX5_node_8 (by decide) ?_
    exact q_iret (v := (-2)) hC hG hr hlk (⟨by simp only [m_node, m_nd, if_pos c5, ↓reduceIte], rfl⟩) dX5_node_10

def m_entry (n : Nat) (M : MM) (node i what : Int32) : Int32 :=
  if m_isNode n node = 0 then -2147483648 else if m_in i (nI 1) (nI (M 3 (tN node))) = 0 then -2147483648 else if m_in what (nI 0) (nI 5) = 0 then -2147483648 else nI (M 2 (96 * tN node + 6 * tN i - 6 + tN what))

abbrev rmX5_entry : Room := { frames := 2, cells := 0, slots := 0, locals := 43 }
set_option maxHeartbeats 4000000 in
set_option maxRecDepth 100000 in
theorem k_X5_entry (l : Launch) (D : va_G) (cA : Nat → ClassId) (A : Nat → Prop) {mb n f : Nat} {X : Mem} {M : MM} (hS : mS mb n f X) (hB : bM M) (hL : mL M) (node e0 what : Int32) : mt l D cA A yX5_entry wsX5_entry rmX5_entry [.ref mb, .int node, .int e0, .int what] (sM mb X M) (fun w Y => w = some (.int (m_entry n M node e0 what)) ∧ Y = sM mb X M) := by
  refine q_start (by decide) rfl (Nat.le_of_ble_eq_true rfl) (fun p e s m args below meth c H locs hC hr hlk hnm hG ls hl => ?_)
  have hl : lv_has ls 4 [(0, .ref mb), (1, .int node), (2, .int e0), (3, .int what)] := hl
  have hx := hC.1.1
  have hb := hC.1.2.1
  have hts := hC.1.2.2.2.2
  have i5 : ∀ w ∈ wsX50, w ∈ wsX5_entry := by decide +kernel
  have hnf := hS.2.2.2.2
  have k7 := hts (.fieldLink RX5 7 "ViewStampsModel" "logs" "[I") (by decide +kernel)
  have k13 := hts (.fieldLink RX5 13 "ViewStampsModel" "many" "[I") (by decide +kernel)
  refine lv_aload_n hx hb dX5_entry_0 rfl (lv_at hl 0 rfl) ?_
  refine lv_iload_n hx hb dX5_entry_1 rfl (lv_at hl 1 rfl) ?_
  refine q_callV (rest := []) (k_X5_isNode l D cA A hS hB node) hC hG cF5 hS.1 1 gX5_entry_X5_isNode rfl (by decide +kernel) ⟨by decide, by decide⟩ rfl hl.1 rfl (by simp [Value.category]) dX5_entry_2 ⟨Nat.le_of_ble_eq_true rfl, Nat.le_of_ble_eq_true rfl⟩ (fun v Y H locs hq hG => ?_)
  obtain ⟨rfl, rfl⟩ := hq
  have q2 : m_isNode n node ≤ 1 := m_in_le _ _ _
  refine n_ifeq (tgt := 31) hC dX5_entry_5 (by decide) (by omega) (fun c5 => ?_) (fun c5 => ?_)
  · refine lv_ldc (v := (-2147483648)) hx hb hC.1.2.2.2.1 (hts (.constant RX5 177 (-2147483648)) (by decide +kernel)) dX5_entry_31 ?_
    exact q_iret (v := (-2147483648)) hC hG hr hlk (⟨by simp only [m_entry, if_pos c5, ↓reduceIte], rfl⟩) dX5_entry_33
  · obtain ⟨i, hi, rfl⟩ := m_isNode_of (n := n) (by omega) (by omega) c5
    have t_i : tN (nI i) = i := tN_nI (by omega)
    have hL0 := hL i (by omega)
    refine lv_iload_n hx hb dX5_entry_8 rfl (lv_at hl 2 rfl) ?_
    refine n_iconst hC 1 dX5_entry_9 ?_
    refine lv_aload_n hx hb dX5_entry_10 rfl (lv_at hl 0 rfl) ?_
    refine q_mg hC hG hS i5 3 rfl k13 dX5_entry_11 ?_
    refine lv_iload_n hx hb dX5_entry_14 rfl (lv_at hl 1 rfl) ?_
    refine q_ml (N := 295) (w := M 3 i) hC hG hS 3 rfl rfl rfl (by omega) rfl dX5_entry_15 ?_
    have b1 : M 3 i < 2147483648 := by have := hB.1 3 i rfl; first | exact this | (simp [up2, m_cp, m_cpk] at this; exact this) | omega
    refine q_callS (rest := []) (k_X5_in l D cA A _ e0 (nI 1) (nI (M 3 i))) hC hG 3 gX5_entry_X5_in rfl (by decide +kernel) ⟨by decide, by decide⟩ rfl hl.1 rfl (by simp [Value.category]) dX5_entry_16 ⟨Nat.le_of_ble_eq_true rfl, Nat.le_of_ble_eq_true rfl⟩ (fun v Y H locs hq hG => ?_)
    obtain ⟨rfl, rfl⟩ := hq
    have q16 := m_in_le e0 (nI 1) (nI (M 3 i))
    refine n_ifeq (tgt := 31) hC dX5_entry_19 (by decide) (by omega) (fun c19 => ?_) (fun c19 => ?_)
    · refine lv_ldc (v := (-2147483648)) hx hb hC.1.2.2.2.1 (hts (.constant RX5 177 (-2147483648)) (by decide +kernel)) dX5_entry_31 ?_
      exact q_iret (v := (-2147483648)) hC hG hr hlk (⟨by simp only [m_entry, if_neg c5, if_pos c19, t_i, ↓reduceIte], rfl⟩) dX5_entry_33
    · refine lv_iload_n hx hb dX5_entry_22 rfl (lv_at hl 3 rfl) ?_
      refine n_iconst hC 0 dX5_entry_23 ?_
      refine n_iconst hC 5 dX5_entry_24 ?_
      refine q_callS (rest := []) (k_X5_in l D cA A _ what (nI 0) (nI 5)) hC hG 3 gX5_entry_X5_in rfl (by decide +kernel) ⟨by decide, by decide⟩ rfl hl.1 rfl (by simp [Value.category]) dX5_entry_25 ⟨Nat.le_of_ble_eq_true rfl, Nat.le_of_ble_eq_true rfl⟩ (fun v Y H locs hq hG => ?_)
      obtain ⟨rfl, rfl⟩ := hq
      have q25 := m_in_le what (nI 0) (nI 5)
      refine n_ifne (tgt := 34) hC dX5_entry_28 (by decide) (by omega) (fun c28 => ?_) (fun c28 => ?_)
      · obtain ⟨en, hen1, hen2, rfl⟩ := m_in_of (by decide) (by omega) c19
        have t_en : tN (nI en) = en := tN_nI (by omega)
        obtain ⟨wh, hwh1, hwh2, rfl⟩ := m_in_of (by decide) (by decide) c28
        have t_wh : tN (nI wh) = wh := tN_nI (by omega)
        refine lv_aload_n hx hb dX5_entry_34 rfl (lv_at hl 0 rfl) ?_
        refine q_mg hC hG hS i5 2 rfl k7 dX5_entry_35 ?_
        refine n_bipush hC 96 (by decide) dX5_entry_38 ?_
        refine lv_iload_n hx hb dX5_entry_40 rfl (lv_at hl 1 rfl) ?_
        refine n_imul hC dX5_entry_41 ?_
        refine n_bipush hC 6 (by decide) dX5_entry_42 ?_
        refine lv_iload_n hx hb dX5_entry_44 rfl (lv_at hl 2 rfl) ?_
        refine n_imul hC dX5_entry_45 ?_
        refine n_iadd hC dX5_entry_46 ?_
        refine n_bipush hC 6 (by decide) dX5_entry_47 ?_
        refine n_isub hC (by omega) dX5_entry_49 ?_
        refine lv_iload_n hx hb dX5_entry_50 rfl (lv_at hl 3 rfl) ?_
        refine n_iadd hC dX5_entry_51 ?_
        refine q_ml (N := 28320) (w := M 2 ((((96 * i) + (6 * en)) - 6) + wh)) hC hG hS 2 rfl rfl rfl (by omega) rfl dX5_entry_52 ?_
        exact q_iret (v := (nI (M 2 ((((96 * i) + (6 * en)) - 6) + wh)))) hC hG hr hlk (⟨by simp only [m_entry, if_neg c5, if_neg c19, if_neg c28, t_i, t_en, t_wh, ↓reduceIte], rfl⟩) dX5_entry_53
      · refine lv_ldc (v := (-2147483648)) hx hb hC.1.2.2.2.1 (hts (.constant RX5 177 (-2147483648)) (by decide +kernel)) dX5_entry_31 ?_
        exact q_iret (v := (-2147483648)) hC hG hr hlk (⟨by simp only [m_entry, if_neg c5, if_neg c19, if_pos c28, t_i, ↓reduceIte], rfl⟩) dX5_entry_33

def m_known (n : Nat) (M : MM) (node other : Int32) : Int32 :=
  if m_isNode n node = 0 then -2 else if m_isNode n other = 0 then -2 else if node = other then -2 else if M 5 (tN node) = 0 then (if m_fst n M (tN node) = 0 then -3 else nI (M 10 (5 * tN node + tN other))) else -3

abbrev rmX5_known : Room := { frames := 2, cells := 0, slots := 0, locals := 43 }
set_option maxHeartbeats 4000000 in
set_option maxRecDepth 100000 in
theorem k_X5_known (l : Launch) (D : va_G) (cA : Nat → ClassId) (A : Nat → Prop) {mb n f : Nat} {X : Mem} {M : MM} (hS : mS mb n f X) (hB : bM M) (node other : Int32) : mt l D cA A yX5_known wsX5_known rmX5_known [.ref mb, .int node, .int other] (sM mb X M) (fun w Y => w = some (.int (m_known n M node other)) ∧ Y = sM mb X M) := by
  refine q_start (by decide) rfl (Nat.le_of_ble_eq_true rfl) (fun p e s m args below meth c H locs hC hr hlk hnm hG ls hl => ?_)
  have hl : lv_has ls 3 [(0, .ref mb), (1, .int node), (2, .int other)] := hl
  have hx := hC.1.1
  have hb := hC.1.2.1
  have hts := hC.1.2.2.2.2
  have i5 : ∀ w ∈ wsX50, w ∈ wsX5_known := by decide +kernel
  have hnf := hS.2.2.2.2
  have k19 := hts (.fieldLink RX5 19 "ViewStampsModel" "status" "[I") (by decide +kernel)
  have k35 := hts (.fieldLink RX5 35 "ViewStampsModel" "knows" "[I") (by decide +kernel)
  refine lv_aload_n hx hb dX5_known_0 rfl (lv_at hl 0 rfl) ?_
  refine lv_iload_n hx hb dX5_known_1 rfl (lv_at hl 1 rfl) ?_
  refine q_callV (rest := []) (k_X5_isNode l D cA A hS hB node) hC hG cF5 hS.1 1 gX5_known_X5_isNode rfl (by decide +kernel) ⟨by decide, by decide⟩ rfl hl.1 rfl (by simp [Value.category]) dX5_known_2 ⟨Nat.le_of_ble_eq_true rfl, Nat.le_of_ble_eq_true rfl⟩ (fun v Y H locs hq hG => ?_)
  obtain ⟨rfl, rfl⟩ := hq
  have q2 : m_isNode n node ≤ 1 := m_in_le _ _ _
  refine n_ifeq (tgt := 21) hC dX5_known_5 (by decide) (by omega) (fun c5 => ?_) (fun c5 => ?_)
  · refine lv_bipush (v := -2) hx hb dX5_known_21 (by decide) ?_
    exact q_iret (v := (-2)) hC hG hr hlk (⟨by simp only [m_known, if_pos c5, ↓reduceIte], rfl⟩) dX5_known_23
  · refine lv_aload_n hx hb dX5_known_8 rfl (lv_at hl 0 rfl) ?_
    refine lv_iload_n hx hb dX5_known_9 rfl (lv_at hl 2 rfl) ?_
    refine q_callV (rest := []) (k_X5_isNode l D cA A hS hB other) hC hG cF5 hS.1 1 gX5_known_X5_isNode rfl (by decide +kernel) ⟨by decide, by decide⟩ rfl hl.1 rfl (by simp [Value.category]) dX5_known_10 ⟨Nat.le_of_ble_eq_true rfl, Nat.le_of_ble_eq_true rfl⟩ (fun v Y H locs hq hG => ?_)
    obtain ⟨rfl, rfl⟩ := hq
    have q10 : m_isNode n other ≤ 1 := m_in_le _ _ _
    refine n_ifeq (tgt := 21) hC dX5_known_13 (by decide) (by omega) (fun c13 => ?_) (fun c13 => ?_)
    · refine lv_bipush (v := -2) hx hb dX5_known_21 (by decide) ?_
      exact q_iret (v := (-2)) hC hG hr hlk (⟨by simp only [m_known, if_neg c5, if_pos c13, ↓reduceIte], rfl⟩) dX5_known_23
    · refine lv_iload_n hx hb dX5_known_16 rfl (lv_at hl 1 rfl) ?_
      refine lv_iload_n hx hb dX5_known_17 rfl (lv_at hl 2 rfl) ?_
      refine lv_icmp_ne (tgt := 24) hx hb dX5_known_18 (by decide) (fun c18 => ?_) (fun c18 => ?_)
      · obtain ⟨i, hi, rfl⟩ := m_isNode_of (n := n) (by omega) (by omega) c5
        have t_i : tN (nI i) = i := tN_nI (by omega)
        obtain ⟨o, ho, rfl⟩ := m_isNode_of (n := n) (by omega) (by omega) c13
        have t_o : tN (nI o) = o := tN_nI (by omega)
        refine lv_aload_n hx hb dX5_known_24 rfl (lv_at hl 0 rfl) ?_
        refine q_mg hC hG hS i5 5 rfl k19 dX5_known_25 ?_
        refine lv_iload_n hx hb dX5_known_28 rfl (lv_at hl 1 rfl) ?_
        refine q_ml (N := 5) (w := M 5 i) hC hG hS 5 rfl rfl rfl (by omega) rfl dX5_known_29 ?_
        have b1 : M 5 i < 2147483648 := by have := hB.1 5 i rfl; first | exact this | (simp [up2, m_cp, m_cpk] at this; exact this) | omega
        refine n_ifne (tgt := 54) hC dX5_known_30 (by decide) (by omega) (fun c30 => ?_) (fun c30 => ?_)
        · refine lv_bipush (v := -3) hx hb dX5_known_54 (by decide) ?_
          exact q_iret (v := (-3)) hC hG hr hlk (⟨by simp only [m_known, if_neg c5, if_neg c13, if_neg c18, if_neg c30, t_i, t_o, ↓reduceIte], rfl⟩) dX5_known_56
        · refine lv_aload_n hx hb dX5_known_33 rfl (lv_at hl 0 rfl) ?_
          refine lv_iload_n hx hb dX5_known_34 rfl (lv_at hl 1 rfl) ?_
          refine q_callV (rest := []) (k_X5_isFirst l D cA A hS hB i (by omega)) hC hG cF5 hS.1 1 gX5_known_X5_isFirst rfl (by decide +kernel) ⟨by decide, by decide⟩ rfl hl.1 rfl (by simp [Value.category]) dX5_known_35 ⟨Nat.le_of_ble_eq_true rfl, Nat.le_of_ble_eq_true rfl⟩ (fun v Y H locs hq hG => ?_)
          obtain ⟨rfl, rfl⟩ := hq
          have q35 := m_fst_le n M i
          refine n_ifeq (tgt := 54) hC dX5_known_38 (by decide) (by omega) (fun c38 => ?_) (fun c38 => ?_)
          · refine lv_bipush (v := -3) hx hb dX5_known_54 (by decide) ?_
            exact q_iret (v := (-3)) hC hG hr hlk (⟨by simp only [m_known, if_neg c5, if_neg c13, if_neg c18, if_pos c30, if_pos c38, t_i, t_o, ↓reduceIte], rfl⟩) dX5_known_56
          · refine lv_aload_n hx hb dX5_known_41 rfl (lv_at hl 0 rfl) ?_
            refine q_mg hC hG hS i5 10 rfl k35 dX5_known_42 ?_
            refine n_iconst hC 5 dX5_known_45 ?_
            refine lv_iload_n hx hb dX5_known_46 rfl (lv_at hl 1 rfl) ?_
            refine n_imul hC dX5_known_47 ?_
            refine lv_iload_n hx hb dX5_known_48 rfl (lv_at hl 2 rfl) ?_
            refine n_iadd hC dX5_known_49 ?_
            refine q_ml (N := 25) (w := M 10 ((5 * i) + o)) hC hG hS 10 rfl rfl rfl (by omega) rfl dX5_known_50 ?_
            have b2 : M 10 ((5 * i) + o) < 2147483648 := by have := hB.1 10 ((5 * i) + o) rfl; first | exact this | (simp [up2, m_cp, m_cpk] at this; exact this) | omega
            refine lv_goto (tgt := 56) hx hb dX5_known_51 (by decide) ?_
            exact q_iret (v := (nI (M 10 ((5 * i) + o)))) hC hG hr hlk (⟨by simp only [m_known, if_neg c5, if_neg c13, if_neg c18, if_pos c30, if_neg c38, t_i, t_o, ↓reduceIte], rfl⟩) dX5_known_56
      · refine lv_bipush (v := -2) hx hb dX5_known_21 (by decide) ?_
        exact q_iret (v := (-2)) hC hG hr hlk (⟨by simp only [m_known, if_neg c5, if_neg c13, if_pos c18, ↓reduceIte], rfl⟩) dX5_known_23

def m_lf (M : MM) (l : Nat) (what : Int32) : Int32 :=
  if what = nI 0 then nI (M 19 l) else if what = nI 1 then nI (M 20 l) else if what = nI 2 then nI (M 21 l) else if what = nI 3 then nI (M 22 l) else if what = nI 4 then (if m_hl (M 21 l) = 0 then nI 0 else nI (M 3 (55 + l))) else if what = nI 5 then (if m_hl (M 21 l) = 0 then nI 0 else nI (M 4 (55 + l))) else if what = nI 6 then nI (M 23 l) else if what = nI 7 then (if M 24 l = 0 then nI 0 else nI 1) else -2
def m_letter (M : MM) (letter what : Int32) : Int32 := if m_in letter (nI 0) (nI (M 17 0) - nI 1) = 0 then -2 else m_lf M (tN letter) what

abbrev rmX5_letter : Room := { frames := 1, cells := 0, slots := 0, locals := 22 }
set_option maxHeartbeats 4000000 in
set_option maxRecDepth 100000 in
theorem k_X5_letter (l : Launch) (D : va_G) (cA : Nat → ClassId) (A : Nat → Prop) {mb n f : Nat} {X : Mem} {M : MM} (hS : mS mb n f X) (hB : bM M) (letter what : Int32) : mt l D cA A yX5_letter wsX5_letter rmX5_letter [.ref mb, .int letter, .int what] (sM mb X M) (fun w Y => w = some (.int (m_letter M letter what)) ∧ Y = sM mb X M) := by
  refine q_start (by decide) rfl (Nat.le_of_ble_eq_true rfl) (fun p e s m args below meth c H locs hC hr hlk hnm hG ls hl => ?_)
  have hl : lv_has ls 4 [(0, .ref mb), (1, .int letter), (2, .int what)] := hl
  have hx := hC.1.1
  have hb := hC.1.2.1
  have hts := hC.1.2.2.2.2
  have i5 : ∀ w ∈ wsX50, w ∈ wsX5_letter := by decide +kernel
  have hnf := hS.2.2.2.2
  have h17 := hB.2
  have k13 := hts (.fieldLink RX5 13 "ViewStampsModel" "many" "[I") (by decide +kernel)
  have k16 := hts (.fieldLink RX5 16 "ViewStampsModel" "sure" "[I") (by decide +kernel)
  have k56 := hts (.fieldLink RX5 56 "ViewStampsModel" "from" "[I") (by decide +kernel)
  have k59 := hts (.fieldLink RX5 59 "ViewStampsModel" "to" "[I") (by decide +kernel)
  have k62 := hts (.fieldLink RX5 62 "ViewStampsModel" "sort" "[I") (by decide +kernel)
  have k65 := hts (.fieldLink RX5 65 "ViewStampsModel" "letterView" "[I") (by decide +kernel)
  have k68 := hts (.fieldLink RX5 68 "ViewStampsModel" "counts" "[I") (by decide +kernel)
  have k71 := hts (.fieldLink RX5 71 "ViewStampsModel" "dropped" "[Z") (by decide +kernel)
  have k88 := hts (.fieldLink RX5 88 "ViewStampsModel" "letters" "I") (by decide +kernel)
  refine lv_iload_n hx hb dX5_letter_0 rfl (lv_at hl 1 rfl) ?_
  refine n_iconst hC 0 dX5_letter_1 ?_
  refine lv_aload_n hx hb dX5_letter_2 rfl (lv_at hl 0 rfl) ?_
  refine q_mi (w := M 17 0) hC hG hS i5 17 (by decide) rfl k88 dX5_letter_3 ?_
  have b1 : M 17 0 ≤ 240 := by have := hB.2; first | exact this | (simp [up2, m_cp, m_cpk] at this; exact this) | omega
  refine n_iconst hC 1 dX5_letter_6 ?_
  refine lv_isub hx hb dX5_letter_7 ?_
  refine q_callS (rest := []) (k_X5_in l D cA A _ letter (nI 0) ((nI (M 17 0)) - (nI 1))) hC hG 3 gX5_letter_X5_in rfl (by decide +kernel) ⟨by decide, by decide⟩ rfl hl.1 rfl (by simp [Value.category]) dX5_letter_8 ⟨Nat.le_of_ble_eq_true rfl, Nat.le_of_ble_eq_true rfl⟩ (fun v Y H locs hq hG => ?_)
  obtain ⟨rfl, rfl⟩ := hq
  have q8 := m_in_le letter (nI 0) ((nI (M 17 0)) - (nI 1))
  refine n_ifne (tgt := 17) hC dX5_letter_11 (by decide) (by omega) (fun c11 => ?_) (fun c11 => ?_)
  · obtain ⟨j, hj, rfl⟩ := m_inL_of hB.2 c11
    have t_j : tN (nI j) = j := tN_nI (by omega)
    refine lv_aload_n hx hb dX5_letter_17 rfl (lv_at hl 0 rfl) ?_
    refine q_mg hC hG hS i5 21 rfl k62 dX5_letter_18 ?_
    refine lv_iload_n hx hb dX5_letter_21 rfl (lv_at hl 1 rfl) ?_
    refine q_ml (N := 240) (w := M 21 j) hC hG hS 21 rfl rfl rfl (by omega) rfl dX5_letter_22 ?_
    have b2 : M 21 j < 2147483648 := by have := hB.1 21 j rfl; first | exact this | (simp [up2, m_cp, m_cpk] at this; exact this) | omega
    refine q_callS (rest := []) (k_X5_hasLog l D cA A _ (M 21 j) (by omega)) hC hG 1 gX5_letter_X5_hasLog rfl (by decide +kernel) ⟨by decide, by decide⟩ rfl hl.1 rfl (by simp [Value.category]) dX5_letter_23 ⟨Nat.le_of_ble_eq_true rfl, Nat.le_of_ble_eq_true rfl⟩ (fun v Y H locs hq hG => ?_)
    obtain ⟨rfl, rfl⟩ := hq
    have q23 := m_hl_le (M 21 j)
    refine lv_istore_n (lv' := [(3, .int (nI (m_hl (M 21 j)))), (0, .ref mb), (1, .int (nI j)), (2, .int what)]) hx hb dX5_letter_26 rfl hl (by decide) rfl (fun ls hl => ?_)
    refine lv_iload_n hx hb dX5_letter_27 rfl (lv_at hl 3 rfl) ?_
    by_cases c28x0 : what = nI 0
    · refine lv_tableIn (off := 48) (tgt := 76) hx hb dX5_letter_28 (by rw [c28x0]; decide +kernel) (by rw [c28x0]; decide +kernel) (by rw [c28x0]; decide +kernel) (by decide) ?_
      refine lv_aload_n hx hb dX5_letter_76 rfl (lv_at hl 1 rfl) ?_
      refine q_mg hC hG hS i5 19 rfl k56 dX5_letter_77 ?_
      refine lv_iload_n hx hb dX5_letter_80 rfl (lv_at hl 2 rfl) ?_
      refine q_ml (N := 240) (w := M 19 j) hC hG hS 19 rfl rfl rfl (by omega) rfl dX5_letter_81 ?_
      have b3 : M 19 j < 2147483648 := by have := hB.1 19 j rfl; first | exact this | (simp [up2, m_cp, m_cpk] at this; exact this) | omega
      exact q_iret (v := (nI (M 19 j))) hC hG hr hlk (⟨by simp only [m_letter, m_lf, if_neg c11, if_pos c28x0, t_j, ↓reduceIte], rfl⟩) dX5_letter_82
    by_cases c28x1 : what = nI 1
    · refine lv_tableIn (off := 55) (tgt := 83) hx hb dX5_letter_28 (by rw [c28x1]; decide +kernel) (by rw [c28x1]; decide +kernel) (by rw [c28x1]; decide +kernel) (by decide) ?_
      refine lv_aload_n hx hb dX5_letter_83 rfl (lv_at hl 1 rfl) ?_
      refine q_mg hC hG hS i5 20 rfl k59 dX5_letter_84 ?_
      refine lv_iload_n hx hb dX5_letter_87 rfl (lv_at hl 2 rfl) ?_
      refine q_ml (N := 240) (w := M 20 j) hC hG hS 20 rfl rfl rfl (by omega) rfl dX5_letter_88 ?_
      have b4 : M 20 j < 2147483648 := by have := hB.1 20 j rfl; first | exact this | (simp [up2, m_cp, m_cpk] at this; exact this) | omega
      exact q_iret (v := (nI (M 20 j))) hC hG hr hlk (⟨by simp only [m_letter, m_lf, if_neg c11, if_neg c28x0, if_pos c28x1, t_j, ↓reduceIte], rfl⟩) dX5_letter_89
    by_cases c28x2 : what = nI 2
    · refine lv_tableIn (off := 62) (tgt := 90) hx hb dX5_letter_28 (by rw [c28x2]; decide +kernel) (by rw [c28x2]; decide +kernel) (by rw [c28x2]; decide +kernel) (by decide) ?_
      refine lv_aload_n hx hb dX5_letter_90 rfl (lv_at hl 1 rfl) ?_
      refine q_mg hC hG hS i5 21 rfl k62 dX5_letter_91 ?_
      refine lv_iload_n hx hb dX5_letter_94 rfl (lv_at hl 2 rfl) ?_
      refine q_ml (N := 240) (w := M 21 j) hC hG hS 21 rfl rfl rfl (by omega) rfl dX5_letter_95 ?_
      have b5 : M 21 j < 2147483648 := by have := hB.1 21 j rfl; first | exact this | (simp [up2, m_cp, m_cpk] at this; exact this) | omega
      exact q_iret (v := (nI (M 21 j))) hC hG hr hlk (⟨by simp only [m_letter, m_lf, if_neg c11, if_neg c28x0, if_neg c28x1, if_pos c28x2, t_j, ↓reduceIte], rfl⟩) dX5_letter_96
    by_cases c28x3 : what = nI 3
    · refine lv_tableIn (off := 69) (tgt := 97) hx hb dX5_letter_28 (by rw [c28x3]; decide +kernel) (by rw [c28x3]; decide +kernel) (by rw [c28x3]; decide +kernel) (by decide) ?_
      refine lv_aload_n hx hb dX5_letter_97 rfl (lv_at hl 1 rfl) ?_
      refine q_mg hC hG hS i5 22 rfl k65 dX5_letter_98 ?_
      refine lv_iload_n hx hb dX5_letter_101 rfl (lv_at hl 2 rfl) ?_
      refine q_ml (N := 240) (w := M 22 j) hC hG hS 22 rfl rfl rfl (by omega) rfl dX5_letter_102 ?_
      have b6 : M 22 j < 2147483648 := by have := hB.1 22 j rfl; first | exact this | (simp [up2, m_cp, m_cpk] at this; exact this) | omega
      exact q_iret (v := (nI (M 22 j))) hC hG hr hlk (⟨by simp only [m_letter, m_lf, if_neg c11, if_neg c28x0, if_neg c28x1, if_neg c28x2, if_pos c28x3, t_j, ↓reduceIte], rfl⟩) dX5_letter_103
    by_cases c28x4 : what = nI 4
    · refine lv_tableIn (off := 76) (tgt := 104) hx hb dX5_letter_28 (by rw [c28x4]; decide +kernel) (by rw [c28x4]; decide +kernel) (by rw [c28x4]; decide +kernel) (by decide) ?_
      refine lv_iload_n hx hb dX5_letter_104 rfl (lv_at hl 0 rfl) ?_
      refine n_ifeq (tgt := 120) hC dX5_letter_105 (by decide) (by omega) (fun c105 => ?_) (fun c105 => ?_)
      · refine n_iconst hC 0 dX5_letter_120 ?_
        exact q_iret (v := (nI 0)) hC hG hr hlk (⟨by simp only [m_letter, m_lf, if_neg c11, if_neg c28x0, if_neg c28x1, if_neg c28x2, if_neg c28x3, if_pos c28x4, if_pos c105, t_j, ↓reduceIte], rfl⟩) dX5_letter_121
      · refine lv_aload_n hx hb dX5_letter_108 rfl (lv_at hl 1 rfl) ?_
        refine q_mg hC hG hS i5 3 rfl k13 dX5_letter_109 ?_
        refine n_bipush hC 55 (by decide) dX5_letter_112 ?_
        refine lv_iload_n hx hb dX5_letter_114 rfl (lv_at hl 2 rfl) ?_
        refine n_iadd hC dX5_letter_115 ?_
        refine q_ml (N := 295) (w := M 3 (55 + j)) hC hG hS 3 rfl rfl rfl (by omega) rfl dX5_letter_116 ?_
        have b7 : M 3 (55 + j) < 2147483648 := by have := hB.1 3 (55 + j) rfl; first | exact this | (simp [up2, m_cp, m_cpk] at this; exact this) | omega
        refine lv_goto (tgt := 121) hx hb dX5_letter_117 (by decide) ?_
        exact q_iret (v := (nI (M 3 (55 + j)))) hC hG hr hlk (⟨by simp only [m_letter, m_lf, if_neg c11, if_neg c28x0, if_neg c28x1, if_neg c28x2, if_neg c28x3, if_pos c28x4, if_neg c105, t_j, ↓reduceIte], rfl⟩) dX5_letter_121
    by_cases c28x5 : what = nI 5
    · refine lv_tableIn (off := 94) (tgt := 122) hx hb dX5_letter_28 (by rw [c28x5]; decide +kernel) (by rw [c28x5]; decide +kernel) (by rw [c28x5]; decide +kernel) (by decide) ?_
      refine lv_iload_n hx hb dX5_letter_122 rfl (lv_at hl 0 rfl) ?_
      refine n_ifeq (tgt := 138) hC dX5_letter_123 (by decide) (by omega) (fun c123 => ?_) (fun c123 => ?_)
      · refine n_iconst hC 0 dX5_letter_138 ?_
        exact q_iret (v := (nI 0)) hC hG hr hlk (⟨by simp only [m_letter, m_lf, if_neg c11, if_neg c28x0, if_neg c28x1, if_neg c28x2, if_neg c28x3, if_neg c28x4, if_pos c28x5, if_pos c123, t_j, ↓reduceIte], rfl⟩) dX5_letter_139
      · refine lv_aload_n hx hb dX5_letter_126 rfl (lv_at hl 1 rfl) ?_
        refine q_mg hC hG hS i5 4 rfl k16 dX5_letter_127 ?_
        refine n_bipush hC 55 (by decide) dX5_letter_130 ?_
        refine lv_iload_n hx hb dX5_letter_132 rfl (lv_at hl 2 rfl) ?_
        refine n_iadd hC dX5_letter_133 ?_
        refine q_ml (N := 295) (w := M 4 (55 + j)) hC hG hS 4 rfl rfl rfl (by omega) rfl dX5_letter_134 ?_
        have b8 : M 4 (55 + j) < 2147483648 := by have := hB.1 4 (55 + j) rfl; first | exact this | (simp [up2, m_cp, m_cpk] at this; exact this) | omega
        refine lv_goto (tgt := 139) hx hb dX5_letter_135 (by decide) ?_
        exact q_iret (v := (nI (M 4 (55 + j)))) hC hG hr hlk (⟨by simp only [m_letter, m_lf, if_neg c11, if_neg c28x0, if_neg c28x1, if_neg c28x2, if_neg c28x3, if_neg c28x4, if_pos c28x5, if_neg c123, t_j, ↓reduceIte], rfl⟩) dX5_letter_139
    by_cases c28x6 : what = nI 6
    · refine lv_tableIn (off := 112) (tgt := 140) hx hb dX5_letter_28 (by rw [c28x6]; decide +kernel) (by rw [c28x6]; decide +kernel) (by rw [c28x6]; decide +kernel) (by decide) ?_
      refine lv_aload_n hx hb dX5_letter_140 rfl (lv_at hl 1 rfl) ?_
      refine q_mg hC hG hS i5 23 rfl k68 dX5_letter_141 ?_
      refine lv_iload_n hx hb dX5_letter_144 rfl (lv_at hl 2 rfl) ?_
      refine q_ml (N := 240) (w := M 23 j) hC hG hS 23 rfl rfl rfl (by omega) rfl dX5_letter_145 ?_
      have b9 : M 23 j < 2147483648 := by have := hB.1 23 j rfl; first | exact this | (simp [up2, m_cp, m_cpk] at this; exact this) | omega
      exact q_iret (v := (nI (M 23 j))) hC hG hr hlk (⟨by simp only [m_letter, m_lf, if_neg c11, if_neg c28x0, if_neg c28x1, if_neg c28x2, if_neg c28x3, if_neg c28x4, if_neg c28x5, if_pos c28x6, t_j, ↓reduceIte], rfl⟩) dX5_letter_146
    by_cases c28x7 : what = nI 7
    · refine lv_tableIn (off := 119) (tgt := 147) hx hb dX5_letter_28 (by rw [c28x7]; decide +kernel) (by rw [c28x7]; decide +kernel) (by rw [c28x7]; decide +kernel) (by decide) ?_
      refine lv_aload_n hx hb dX5_letter_147 rfl (lv_at hl 1 rfl) ?_
      refine q_mg hC hG hS i5 24 rfl k71 dX5_letter_148 ?_
      refine lv_iload_n hx hb dX5_letter_151 rfl (lv_at hl 2 rfl) ?_
      refine q_mlz (N := 240) (w := M 24 j) hC hG hS 24 rfl rfl rfl (by omega) rfl dX5_letter_152 ?_
      have b10 : M 24 j < 2147483648 := by have := hB.1 24 j rfl; first | exact this | (simp [up2, m_cp, m_cpk] at this; exact this) | omega
      refine n_ifeq (tgt := 160) hC dX5_letter_153 (by decide) (by omega) (fun c153 => ?_) (fun c153 => ?_)
      · refine n_iconst hC 0 dX5_letter_160 ?_
        exact q_iret (v := (nI 0)) hC hG hr hlk (⟨by simp only [m_letter, m_lf, if_neg c11, if_neg c28x0, if_neg c28x1, if_neg c28x2, if_neg c28x3, if_neg c28x4, if_neg c28x5, if_neg c28x6, if_pos c28x7, if_pos c153, t_j, ↓reduceIte], rfl⟩) dX5_letter_161
      · refine n_iconst hC 1 dX5_letter_156 ?_
        refine lv_goto (tgt := 161) hx hb dX5_letter_157 (by decide) ?_
        exact q_iret (v := (nI 1)) hC hG hr hlk (⟨by simp only [m_letter, m_lf, if_neg c11, if_neg c28x0, if_neg c28x1, if_neg c28x2, if_neg c28x3, if_neg c28x4, if_neg c28x5, if_neg c28x6, if_pos c28x7, if_neg c153, t_j, ↓reduceIte], rfl⟩) dX5_letter_161
    refine lv_tableOut (tgt := 162) hx hb dX5_letter_28 (sw_out (hi := 7) (fun v hv => by rcases (show v = 0 ∨ v = 1 ∨ v = 2 ∨ v = 3 ∨ v = 4 ∨ v = 5 ∨ v = 6 ∨ v = 7 by omega) with rfl | rfl | rfl | rfl | rfl | rfl | rfl | rfl <;> assumption)) (by decide) ?_
    refine lv_bipush (v := -2) hx hb dX5_letter_162 (by decide) ?_
    exact q_iret (v := (-2)) hC hG hr hlk (⟨by simp only [m_letter, m_lf, if_neg c11, if_neg c28x0, if_neg c28x1, if_neg c28x2, if_neg c28x3, if_neg c28x4, if_neg c28x5, if_neg c28x6, if_neg c28x7, t_j, ↓reduceIte], rfl⟩) dX5_letter_164
  · refine lv_bipush (v := -2) hx hb dX5_letter_14 (by decide) ?_
    exact q_iret (v := (-2)) hC hG hr hlk (⟨by simp only [m_letter, m_lf, if_pos c11, ↓reduceIte], rfl⟩) dX5_letter_16

/-- how many of the first j places of array x are 0 -/
def m_cz0 (M : MM) (x : Nat) : Nat → Nat
  | 0 => 0
  | j + 1 => m_cz0 M x j + (if M x j = 0 then 1 else 0)
theorem m_cz0_le (M : MM) (x : Nat) : ∀ j, m_cz0 M x j ≤ j := by
  intro j
  induction j with
  | zero => exact Nat.le_refl 0
  | succ j ih => unfold m_cz0; split <;> omega
/-- cut lines from i to nodes below j, above i; of all nodes below i -/
def m_cr (M : MM) (i : Nat) : Nat → Nat
  | 0 => 0
  | j + 1 => m_cr M i j + (if j ≤ i then 0 else if M 16 (5 * i + j) = 0 then 0 else 1)
def m_ct (n : Nat) (M : MM) : Nat → Nat
  | 0 => 0
  | i + 1 => m_ct n M i + m_cr M i n
theorem m_cr_le (M : MM) (i : Nat) : ∀ j, m_cr M i j ≤ j := by
  intro j
  induction j with
  | zero => exact Nat.le_refl 0
  | succ j ih => unfold m_cr; split <;> (try split) <;> omega
theorem m_ct_le (n : Nat) (M : MM) : ∀ i, m_ct n M i ≤ i * n := by
  intro i
  induction i with
  | zero => exact Nat.zero_le _
  | succ i ih =>
    unfold m_ct
    have := m_cr_le M i n
    rw [Nat.succ_mul]
    omega
theorem m_cr_0 (M : MM) (i : Nat) : ∀ j, j ≤ i + 1 → m_cr M i j = 0 := by
  intro j
  induction j with
  | zero => intro _; rfl
  | succ j ih =>
    intro h
    unfold m_cr
    rw [ih (by omega), if_pos (by omega)]
def m_count (n : Nat) (M : MM) (what : Int32) : Int32 :=
  if what = nI 0 then nI (M 17 0) else if what = nI 1 then nI (m_cnt M 24 0 (M 17 0)) else if what = nI 2 then nI (M 18 0) else if what = nI 3 then nI (m_ct n M n) else if what = nI 4 then nI (m_cz0 M 5 n) else -2

abbrev rmX5_count : Room := { frames := 0, cells := 0, slots := 0, locals := 0 }
set_option maxHeartbeats 4000000 in
set_option maxRecDepth 100000 in
theorem k_X5_count (l : Launch) (D : va_G) (cA : Nat → ClassId) (A : Nat → Prop) {mb n f : Nat} {X : Mem} {M : MM} (hS : mS mb n f X) (hB : bM M) (what : Int32) : mt l D cA A yX5_count wsX5_count rmX5_count [.ref mb, .int what] (sM mb X M) (fun w Y => w = some (.int (m_count n M what)) ∧ Y = sM mb X M) := by
  refine q_start (by decide) rfl (Nat.le_of_ble_eq_true rfl) (fun p e s m args below meth c H locs hC hr hlk hnm hG ls hl => ?_)
  have hl : lv_has ls 5 [(0, .ref mb), (1, .int what)] := hl
  have hx := hC.1.1
  have hb := hC.1.2.1
  have hts := hC.1.2.2.2.2
  have i5 : ∀ w ∈ wsX50, w ∈ wsX5_count := by decide +kernel
  have hnf := hS.2.2.2.2
  have h17 := hB.2
  have k19 := hts (.fieldLink RX5 19 "ViewStampsModel" "status" "[I") (by decide +kernel)
  have k53 := hts (.fieldLink RX5 53 "ViewStampsModel" "isCut" "[Z") (by decide +kernel)
  have k71 := hts (.fieldLink RX5 71 "ViewStampsModel" "dropped" "[Z") (by decide +kernel)
  have k77 := hts (.fieldLink RX5 77 "ViewStampsModel" "n" "I") (by decide +kernel)
  have k88 := hts (.fieldLink RX5 88 "ViewStampsModel" "letters" "I") (by decide +kernel)
  have k91 := hts (.fieldLink RX5 91 "ViewStampsModel" "lost" "I") (by decide +kernel)
  have loop1 : ∀ (d : Nat) (k j : Nat) (H : Heap) (locs : List Loc) (ls : Array Slot), M 17 0 - j < d → j ≤ M 17 0 → k = m_cnt M 24 0 j → nI (m_cnt M 24 0 (M 17 0)) = m_count n M what → gw D cA A (sM mb X M) s.heap H locs → lv_has ls 5 [(0, .ref mb), (2, .int (nI k)), (3, .int (nI j))] → W p l e rmX5_count s m args below meth c H locs 0 0 (MQ below (mQ D cA A (fun w Y => w = some (.int (m_count n M what)) ∧ Y = sM mb X M)) args s rmX5_count.cells rmX5_count.slots A) (F0 m 43 ls []) := by
    intro d
    induction d with
    | zero => intro k j H locs ls hd; exact absurd hd (Nat.not_lt_zero _)
    | succ d ih =>
      intro k j H locs ls hd hj hk hT hG hl
      have hk2 := m_cnt_le M 24 0 j
      refine lv_iload_n hx hb dX5_count_43 rfl (lv_at hl 2 rfl) ?_
      refine lv_aload_n hx hb dX5_count_44 rfl (lv_at hl 0 rfl) ?_
      refine q_mi (w := M 17 0) hC hG hS i5 17 (by decide) rfl k88 dX5_count_45 ?_
      have b1 : M 17 0 ≤ 240 := by have := hB.2; first | exact this | (simp [up2, m_cp, m_cpk] at this; exact this) | omega
      refine n_ge (tgt := 74) hC dX5_count_48 (by decide) (by omega) (by omega) (fun c48 => ?_) (fun c48 => ?_)
      · have c48n := Nat.not_lt.mpr c48
        refine lv_iload_n hx hb dX5_count_74 rfl (lv_at hl 1 rfl) ?_
        exact q_iret (v := (nI k)) hC hG hr hlk (⟨by rw [← hT, hk, show j = M 17 0 by omega], rfl⟩) dX5_count_75
      · have c48n := Nat.not_le.mpr c48
        refine lv_iload_n hx hb dX5_count_51 rfl (lv_at hl 1 rfl) ?_
        refine lv_aload_n hx hb dX5_count_52 rfl (lv_at hl 0 rfl) ?_
        refine q_mg hC hG hS i5 24 rfl k71 dX5_count_53 ?_
        refine lv_iload_n hx hb dX5_count_56 rfl (lv_at hl 2 rfl) ?_
        refine q_mlz (N := 240) (w := M 24 j) hC hG hS 24 rfl rfl rfl (by omega) rfl dX5_count_57 ?_
        have b2 : M 24 j < 2147483648 := by have := hB.1 24 j rfl; first | exact this | (simp [up2, m_cp, m_cpk] at this; exact this) | omega
        refine n_ifeq (tgt := 65) hC dX5_count_58 (by decide) (by omega) (fun c58 => ?_) (fun c58 => ?_)
        · refine n_iconst hC 0 dX5_count_65 ?_
          refine n_iadd hC dX5_count_66 ?_
          refine lv_istore_n (lv' := [(2, .int (nI (k + 0))), (0, .ref mb), (3, .int (nI j))]) hx hb dX5_count_67 rfl hl (by decide) rfl (fun ls hl => ?_)
          refine n_iinc (n := 1) (k := 2) (lv' := [(3, .int (nI (j + 1))), (2, .int (nI (k + 0))), (0, .ref mb)]) hC dX5_count_68 hl rfl (by decide) rfl (fun ls hl => ?_)
          refine lv_goto (tgt := 43) hx hb dX5_count_71 (by decide) ?_
          exact ih (k + 0) (j + 1) _ _ _ (by omega) (by omega) (by rw [m_cnt, ← hk, Nat.zero_add]; simp only [c58, ↓reduceIte]) hT hG (lv_sub hl [2, 1, 0] rfl)
        · refine n_iconst hC 1 dX5_count_61 ?_
          refine lv_goto (tgt := 66) hx hb dX5_count_62 (by decide) ?_
          refine n_iadd hC dX5_count_66 ?_
          refine lv_istore_n (lv' := [(2, .int (nI (k + 1))), (0, .ref mb), (3, .int (nI j))]) hx hb dX5_count_67 rfl hl (by decide) rfl (fun ls hl => ?_)
          refine n_iinc (n := 1) (k := 2) (lv' := [(3, .int (nI (j + 1))), (2, .int (nI (k + 1))), (0, .ref mb)]) hC dX5_count_68 hl rfl (by decide) rfl (fun ls hl => ?_)
          refine lv_goto (tgt := 43) hx hb dX5_count_71 (by decide) ?_
          exact ih (k + 1) (j + 1) _ _ _ (by omega) (by omega) (by rw [m_cnt, ← hk, Nat.zero_add]; simp only [c58, ↓reduceIte]) hT hG (lv_sub hl [2, 1, 0] rfl)
  have loop4 : ∀ (d : Nat) (k j : Nat) (H : Heap) (locs : List Loc) (ls : Array Slot), n - j < d → j ≤ n → k = m_cz0 M 5 j → nI (m_cz0 M 5 n) = m_count n M what → gw D cA A (sM mb X M) s.heap H locs → lv_has ls 5 [(0, .ref mb), (2, .int (nI k)), (3, .int (nI j))] → W p l e rmX5_count s m args below meth c H locs 0 0 (MQ below (mQ D cA A (fun w Y => w = some (.int (m_count n M what)) ∧ Y = sM mb X M)) args s rmX5_count.cells rmX5_count.slots A) (F0 m 143 ls []) := by
    intro d
    induction d with
    | zero => intro k j H locs ls hd; exact absurd hd (Nat.not_lt_zero _)
    | succ d ih =>
      intro k j H locs ls hd hj hk hT hG hl
      have hk2 := m_cz0_le M 5 j
      refine lv_iload_n hx hb dX5_count_143 rfl (lv_at hl 2 rfl) ?_
      refine lv_aload_n hx hb dX5_count_144 rfl (lv_at hl 0 rfl) ?_
      refine q_mn hC hG hS i5 k77 dX5_count_145 ?_
      refine n_ge (tgt := 174) hC dX5_count_148 (by decide) (by omega) (by omega) (fun c148 => ?_) (fun c148 => ?_)
      · have c148n := Nat.not_lt.mpr c148
        refine lv_iload_n hx hb dX5_count_174 rfl (lv_at hl 1 rfl) ?_
        exact q_iret (v := (nI k)) hC hG hr hlk (⟨by rw [← hT, hk, show j = n by omega], rfl⟩) dX5_count_175
      · have c148n := Nat.not_le.mpr c148
        refine lv_iload_n hx hb dX5_count_151 rfl (lv_at hl 1 rfl) ?_
        refine lv_aload_n hx hb dX5_count_152 rfl (lv_at hl 0 rfl) ?_
        refine q_mg hC hG hS i5 5 rfl k19 dX5_count_153 ?_
        refine lv_iload_n hx hb dX5_count_156 rfl (lv_at hl 2 rfl) ?_
        refine q_ml (N := 5) (w := M 5 j) hC hG hS 5 rfl rfl rfl (by omega) rfl dX5_count_157 ?_
        have b3 : M 5 j < 2147483648 := by have := hB.1 5 j rfl; first | exact this | (simp [up2, m_cp, m_cpk] at this; exact this) | omega
        refine n_ifne (tgt := 165) hC dX5_count_158 (by decide) (by omega) (fun c158 => ?_) (fun c158 => ?_)
        · refine n_iconst hC 0 dX5_count_165 ?_
          refine n_iadd hC dX5_count_166 ?_
          refine lv_istore_n (lv' := [(2, .int (nI (k + 0))), (0, .ref mb), (3, .int (nI j))]) hx hb dX5_count_167 rfl hl (by decide) rfl (fun ls hl => ?_)
          refine n_iinc (n := 1) (k := 2) (lv' := [(3, .int (nI (j + 1))), (2, .int (nI (k + 0))), (0, .ref mb)]) hC dX5_count_168 hl rfl (by decide) rfl (fun ls hl => ?_)
          refine lv_goto (tgt := 143) hx hb dX5_count_171 (by decide) ?_
          exact ih (k + 0) (j + 1) _ _ _ (by omega) (by omega) (by rw [m_cz0, ← hk]; simp only [c158, ↓reduceIte]) hT hG (lv_sub hl [2, 1, 0] rfl)
        · refine n_iconst hC 1 dX5_count_161 ?_
          refine lv_goto (tgt := 166) hx hb dX5_count_162 (by decide) ?_
          refine n_iadd hC dX5_count_166 ?_
          refine lv_istore_n (lv' := [(2, .int (nI (k + 1))), (0, .ref mb), (3, .int (nI j))]) hx hb dX5_count_167 rfl hl (by decide) rfl (fun ls hl => ?_)
          refine n_iinc (n := 1) (k := 2) (lv' := [(3, .int (nI (j + 1))), (2, .int (nI (k + 1))), (0, .ref mb)]) hC dX5_count_168 hl rfl (by decide) rfl (fun ls hl => ?_)
          refine lv_goto (tgt := 143) hx hb dX5_count_171 (by decide) ?_
          exact ih (k + 1) (j + 1) _ _ _ (by omega) (by omega) (by rw [m_cz0, ← hk]; simp only [c158, ↓reduceIte]) hT hG (lv_sub hl [2, 1, 0] rfl)
  have loop3 : ∀ (d : Nat) (k i : Nat) (H : Heap) (locs : List Loc) (ls : Array Slot), n - i < d → i ≤ n → k = m_ct n M i → nI (m_ct n M n) = m_count n M what → gw D cA A (sM mb X M) s.heap H locs → lv_has ls 5 [(0, .ref mb), (2, .int (nI k)), (3, .int (nI i))] → W p l e rmX5_count s m args below meth c H locs 0 0 (MQ below (mQ D cA A (fun w Y => w = some (.int (m_count n M what)) ∧ Y = sM mb X M)) args s rmX5_count.cells rmX5_count.slots A) (F0 m 83 ls []) := by
    intro d
    induction d with
    | zero => intro k i H locs ls hd; exact absurd hd (Nat.not_lt_zero _)
    | succ d ih =>
      intro k i H locs ls hd hi hk hT hG hl
      have hk2 := m_ct_le n M i
      have hk3 : i * n ≤ 25 := Nat.le_trans (Nat.mul_le_mul (show i ≤ 5 by omega) (show n ≤ 5 by omega)) (by decide)
      refine lv_iload_n hx hb dX5_count_83 rfl (lv_at hl 2 rfl) ?_
      refine lv_aload_n hx hb dX5_count_84 rfl (lv_at hl 0 rfl) ?_
      refine q_mn hC hG hS i5 k77 dX5_count_85 ?_
      refine n_ge (tgt := 139) hC dX5_count_88 (by decide) (by omega) (by omega) (fun c88 => ?_) (fun c88 => ?_)
      · have c88n := Nat.not_lt.mpr c88
        refine lv_iload_n hx hb dX5_count_139 rfl (lv_at hl 1 rfl) ?_
        exact q_iret (v := (nI k)) hC hG hr hlk (⟨by rw [← hT, hk, show i = n by omega], rfl⟩) dX5_count_140
      · have c88n := Nat.not_le.mpr c88
        refine lv_iload_n hx hb dX5_count_91 rfl (lv_at hl 2 rfl) ?_
        refine n_iconst hC 1 dX5_count_92 ?_
        refine n_iadd hC dX5_count_93 ?_
        refine lv_istore (lv' := [(4, .int (nI (i + 1))), (0, .ref mb), (2, .int (nI k)), (3, .int (nI i))]) hx hb dX5_count_94 hl (by decide) rfl (fun ls hl => ?_)
        have loop5 : ∀ (d : Nat) (k j : Nat) (H : Heap) (locs : List Loc) (ls : Array Slot), n - j < d → j ≤ n → i + 1 ≤ j → k = m_ct n M i + m_cr M i j → gw D cA A (sM mb X M) s.heap H locs → lv_has ls 5 [(0, .ref mb), (2, .int (nI k)), (3, .int (nI i)), (4, .int (nI j))] → W p l e rmX5_count s m args below meth c H locs 0 0 (MQ below (mQ D cA A (fun w Y => w = some (.int (m_count n M what)) ∧ Y = sM mb X M)) args s rmX5_count.cells rmX5_count.slots A) (F0 m 96 ls []) := by
          intro d
          induction d with
          | zero => intro k j H locs ls hd; exact absurd hd (Nat.not_lt_zero _)
          | succ d ih2 =>
            intro k j H locs ls hd hj hij hk9 hG hl
            have hk4 := m_cr_le M i j
            refine lv_iload hx hb dX5_count_96 (lv_at hl 3 rfl) ?_
            refine lv_aload_n hx hb dX5_count_98 rfl (lv_at hl 0 rfl) ?_
            refine q_mn hC hG hS i5 k77 dX5_count_99 ?_
            refine n_ge (tgt := 133) hC dX5_count_102 (by decide) (by omega) (by omega) (fun c102 => ?_) (fun c102 => ?_)
            · have c102n := Nat.not_lt.mpr c102
              refine n_iinc (n := 1) (k := 2) (lv' := [(3, .int (nI (i + 1))), (0, .ref mb), (2, .int (nI k)), (4, .int (nI j))]) hC dX5_count_133 hl rfl (by decide) rfl (fun ls hl => ?_)
              refine lv_goto (tgt := 83) hx hb dX5_count_136 (by decide) ?_
              exact ih k (i + 1) _ _ _ (by omega) (by omega) (by rw [m_ct, hk9, show j = n by omega]) hT hG (lv_sub hl [1, 2, 0] rfl)
            · have c102n := Nat.not_le.mpr c102
              refine lv_iload_n hx hb dX5_count_105 rfl (lv_at hl 1 rfl) ?_
              refine lv_aload_n hx hb dX5_count_106 rfl (lv_at hl 0 rfl) ?_
              refine q_mg hC hG hS i5 16 rfl k53 dX5_count_107 ?_
              refine n_iconst hC 5 dX5_count_110 ?_
              refine lv_iload_n hx hb dX5_count_111 rfl (lv_at hl 2 rfl) ?_
              refine n_imul hC dX5_count_112 ?_
              refine lv_iload hx hb dX5_count_113 (lv_at hl 3 rfl) ?_
              refine n_iadd hC dX5_count_115 ?_
              refine q_mlz (N := 25) (w := M 16 ((5 * i) + j)) hC hG hS 16 rfl rfl rfl (by omega) rfl dX5_count_116 ?_
              have b4 : M 16 ((5 * i) + j) < 2147483648 := by have := hB.1 16 ((5 * i) + j) rfl; first | exact this | (simp [up2, m_cp, m_cpk] at this; exact this) | omega
              refine n_ifeq (tgt := 124) hC dX5_count_117 (by decide) (by omega) (fun c117 => ?_) (fun c117 => ?_)
              · refine n_iconst hC 0 dX5_count_124 ?_
                refine n_iadd hC dX5_count_125 ?_
                refine lv_istore_n (lv' := [(2, .int (nI (k + 0))), (0, .ref mb), (3, .int (nI i)), (4, .int (nI j))]) hx hb dX5_count_126 rfl hl (by decide) rfl (fun ls hl => ?_)
                refine n_iinc (n := 1) (k := 3) (lv' := [(4, .int (nI (j + 1))), (2, .int (nI (k + 0))), (0, .ref mb), (3, .int (nI i))]) hC dX5_count_127 hl rfl (by decide) rfl (fun ls hl => ?_)
                refine lv_goto (tgt := 96) hx hb dX5_count_130 (by decide) ?_
                exact ih2 (k + 0) (j + 1) _ _ _ (by omega) (by omega) (by omega) (by rw [m_cr, hk9]; simp only [show ¬ (j ≤ i) from by omega, c117, ↓reduceIte]; try omega) hG (lv_sub hl [2, 1, 3, 0] rfl)
              · refine n_iconst hC 1 dX5_count_120 ?_
                refine lv_goto (tgt := 125) hx hb dX5_count_121 (by decide) ?_
                refine n_iadd hC dX5_count_125 ?_
                refine lv_istore_n (lv' := [(2, .int (nI (k + 1))), (0, .ref mb), (3, .int (nI i)), (4, .int (nI j))]) hx hb dX5_count_126 rfl hl (by decide) rfl (fun ls hl => ?_)
                refine n_iinc (n := 1) (k := 3) (lv' := [(4, .int (nI (j + 1))), (2, .int (nI (k + 1))), (0, .ref mb), (3, .int (nI i))]) hC dX5_count_127 hl rfl (by decide) rfl (fun ls hl => ?_)
                refine lv_goto (tgt := 96) hx hb dX5_count_130 (by decide) ?_
                exact ih2 (k + 1) (j + 1) _ _ _ (by omega) (by omega) (by omega) (by rw [m_cr, hk9]; simp only [show ¬ (j ≤ i) from by omega, c117, ↓reduceIte]; try omega) hG (lv_sub hl [2, 1, 3, 0] rfl)
        exact loop5 (n + 1) k (i + 1) _ _ _ (by omega) (by omega) (by omega) (by rw [m_cr_0 M i (i + 1) (Nat.le_refl _), ← hk]; rfl) hG (lv_sub hl [1, 2, 3, 0] rfl)
  refine n_iconst hC 0 dX5_count_0 ?_
  refine lv_istore_n (lv' := [(2, .int (nI 0)), (0, .ref mb), (1, .int what)]) hx hb dX5_count_1 rfl hl (by decide) rfl (fun ls hl => ?_)
  refine lv_iload_n hx hb dX5_count_2 rfl (lv_at hl 2 rfl) ?_
  by_cases c3x0 : what = nI 0
  · refine lv_tableIn (off := 33) (tgt := 36) hx hb dX5_count_3 (by rw [c3x0]; decide +kernel) (by rw [c3x0]; decide +kernel) (by rw [c3x0]; decide +kernel) (by decide) ?_
    refine lv_aload_n hx hb dX5_count_36 rfl (lv_at hl 1 rfl) ?_
    refine q_mi (w := M 17 0) hC hG hS i5 17 (by decide) rfl k88 dX5_count_37 ?_
    have b5 : M 17 0 ≤ 240 := by have := hB.2; first | exact this | (simp [up2, m_cp, m_cpk] at this; exact this) | omega
    exact q_iret (v := (nI (M 17 0))) hC hG hr hlk (⟨by simp only [m_count, if_pos c3x0, ↓reduceIte], rfl⟩) dX5_count_40
  by_cases c3x1 : what = nI 1
  · refine lv_tableIn (off := 38) (tgt := 41) hx hb dX5_count_3 (by rw [c3x1]; decide +kernel) (by rw [c3x1]; decide +kernel) (by rw [c3x1]; decide +kernel) (by decide) ?_
    refine n_iconst hC 0 dX5_count_41 ?_
    refine lv_istore_n (lv' := [(3, .int (nI 0)), (2, .int (nI 0)), (0, .ref mb), (1, .int what)]) hx hb dX5_count_42 rfl hl (by decide) rfl (fun ls hl => ?_)
    exact loop1 (M 17 0 + 1) 0 0 _ _ _ (by omega) (by omega) rfl (by simp only [m_count, if_neg c3x0, if_pos c3x1, ↓reduceIte]) hG (lv_sub hl [2, 1, 0] rfl)
  by_cases c3x2 : what = nI 2
  · refine lv_tableIn (off := 73) (tgt := 76) hx hb dX5_count_3 (by rw [c3x2]; decide +kernel) (by rw [c3x2]; decide +kernel) (by rw [c3x2]; decide +kernel) (by decide) ?_
    refine lv_aload_n hx hb dX5_count_76 rfl (lv_at hl 1 rfl) ?_
    refine q_mi (w := M 18 0) hC hG hS i5 18 (by decide) rfl k91 dX5_count_77 ?_
    exact q_iret (v := (nI (M 18 0))) hC hG hr hlk (⟨by simp only [m_count, if_neg c3x0, if_neg c3x1, if_pos c3x2, ↓reduceIte], rfl⟩) dX5_count_80
  by_cases c3x3 : what = nI 3
  · refine lv_tableIn (off := 78) (tgt := 81) hx hb dX5_count_3 (by rw [c3x3]; decide +kernel) (by rw [c3x3]; decide +kernel) (by rw [c3x3]; decide +kernel) (by decide) ?_
    refine n_iconst hC 0 dX5_count_81 ?_
    refine lv_istore_n (lv' := [(3, .int (nI 0)), (2, .int (nI 0)), (0, .ref mb), (1, .int what)]) hx hb dX5_count_82 rfl hl (by decide) rfl (fun ls hl => ?_)
    exact loop3 (n + 1) 0 0 _ _ _ (by omega) (by omega) rfl (by simp only [m_count, if_neg c3x0, if_neg c3x1, if_neg c3x2, if_pos c3x3, ↓reduceIte]) hG (lv_sub hl [2, 1, 0] rfl)
  by_cases c3x4 : what = nI 4
  · refine lv_tableIn (off := 138) (tgt := 141) hx hb dX5_count_3 (by rw [c3x4]; decide +kernel) (by rw [c3x4]; decide +kernel) (by rw [c3x4]; decide +kernel) (by decide) ?_
    refine n_iconst hC 0 dX5_count_141 ?_
    refine lv_istore_n (lv' := [(3, .int (nI 0)), (2, .int (nI 0)), (0, .ref mb), (1, .int what)]) hx hb dX5_count_142 rfl hl (by decide) rfl (fun ls hl => ?_)
    exact loop4 (n + 1) 0 0 _ _ _ (by omega) (by omega) rfl (by simp only [m_count, if_neg c3x0, if_neg c3x1, if_neg c3x2, if_neg c3x3, if_pos c3x4, ↓reduceIte]) hG (lv_sub hl [2, 1, 0] rfl)
  refine lv_tableOut (tgt := 176) hx hb dX5_count_3 (sw_out (hi := 4) (fun v hv => by rcases (show v = 0 ∨ v = 1 ∨ v = 2 ∨ v = 3 ∨ v = 4 by omega) with rfl | rfl | rfl | rfl | rfl <;> assumption)) (by decide) ?_
  refine lv_bipush (v := -2) hx hb dX5_count_176 (by decide) ?_
  exact q_iret (v := (-2)) hC hG hr hlk (⟨by simp only [m_count, if_neg c3x0, if_neg c3x1, if_neg c3x2, if_neg c3x3, if_neg c3x4, ↓reduceIte], rfl⟩) dX5_count_178

/-- whether the first k cells of two logs are alike -/
def m_sm (M : MM) (i j : Nat) : Nat → Bool
  | 0 => true
  | k + 1 => m_sm M i j k && decide (nI (M 2 (96 * i + k)) = nI (M 2 (96 * j + k)))
theorem m_sm_f {M : MM} {i j k : Nat} (h : m_sm M i j k = false) : ∀ q, k ≤ q → m_sm M i j q = false := by
  intro q hq
  induction q with
  | zero =>
    have : k = 0 := by omega
    subst this; exact h
  | succ q ih =>
    by_cases hk : k = q + 1
    · subst hk; exact h
    · have := ih (by omega)
      simp only [m_sm, this, Bool.false_and]
/-- the first j at or above n - d with U j -/
def s_j (U : Nat → Bool) (n : Nat) : Nat → Option Nat
  | 0 => none
  | d + 1 => if U (n - (d + 1)) = true then some (n - (d + 1)) else s_j U n d
/-- the first pair i, j with U i j, from i = n - d on -/
def s_i (U : Nat → Nat → Bool) (n : Nat) : Nat → Int32
  | 0 => -1
  | d + 1 => match s_j (U (n - (d + 1))) n d with
    | some j => nI (10 * (n - (d + 1)) + j)
    | none => s_i U n d
def m_U (M : MM) (i j : Nat) : Bool := !(m_sm M i j (6 * m_les (M 4 i) (M 4 j)))
def m_unlike (n : Nat) (M : MM) : Int32 := s_i (m_U M) n n
theorem s_i_step {U : Nat → Nat → Bool} {n i : Nat} (hi : i < n) : s_i U n (n - i) = match s_j (U i) n (n - (i + 1)) with
    | some j => nI (10 * i + j)
    | none => s_i U n (n - (i + 1)) := by
  obtain ⟨d, hd⟩ : ∃ d, n - i = d + 1 := ⟨n - i - 1, by omega⟩
  rw [hd]
  have e1 : n - (d + 1) = i := by omega
  have e2 : n - (i + 1) = d := by omega
  simp only [s_i, e1, e2]
theorem s_j_step {U : Nat → Bool} {n j : Nat} (hj : j < n) : s_j U n (n - j) = if U j = true then some j else s_j U n (n - (j + 1)) := by
  obtain ⟨d, hd⟩ : ∃ d, n - j = d + 1 := ⟨n - j - 1, by omega⟩
  rw [hd]
  have e1 : n - (d + 1) = j := by omega
  have e2 : n - (j + 1) = d := by omega
  simp only [s_j, e1, e2]

abbrev rmX5_unlike : Room := { frames := 1, cells := 0, slots := 0, locals := 21 }
set_option maxHeartbeats 4000000 in
set_option maxRecDepth 100000 in
theorem k_X5_unlike (l : Launch) (D : va_G) (cA : Nat → ClassId) (A : Nat → Prop) {mb n f : Nat} {X : Mem} {M : MM} (hS : mS mb n f X) (hB : bM M) (hL : mL M) : mt l D cA A yX5_unlike wsX5_unlike rmX5_unlike [.ref mb] (sM mb X M) (fun w Y => w = some (.int (m_unlike n M)) ∧ Y = sM mb X M) := by
  refine q_start (by decide) rfl (Nat.le_of_ble_eq_true rfl) (fun p e s m args below meth c H locs hC hr hlk hnm hG ls hl => ?_)
  have hl : lv_has ls 5 [(0, .ref mb)] := hl
  have hx := hC.1.1
  have hb := hC.1.2.1
  have hts := hC.1.2.2.2.2
  have i5 : ∀ w ∈ wsX50, w ∈ wsX5_unlike := by decide +kernel
  have hnf := hS.2.2.2.2
  have k7 := hts (.fieldLink RX5 7 "ViewStampsModel" "logs" "[I") (by decide +kernel)
  have k16 := hts (.fieldLink RX5 16 "ViewStampsModel" "sure" "[I") (by decide +kernel)
  have k77 := hts (.fieldLink RX5 77 "ViewStampsModel" "n" "I") (by decide +kernel)
  have loop1 : ∀ (d : Nat) (i : Nat) (H : Heap) (locs : List Loc) (ls : Array Slot), n - i < d → i ≤ n → s_i (m_U M) n (n - i) = m_unlike n M → gw D cA A (sM mb X M) s.heap H locs → lv_has ls 5 [(0, .ref mb), (1, .int (nI i))] → W p l e rmX5_unlike s m args below meth c H locs 0 0 (MQ below (mQ D cA A (fun w Y => w = some (.int (m_unlike n M)) ∧ Y = sM mb X M)) args s rmX5_unlike.cells rmX5_unlike.slots A) (F0 m 2 ls []) := by
    intro d
    induction d with
    | zero => intro i H locs ls hd; exact absurd hd (Nat.not_lt_zero _)
    | succ d ih =>
      intro i H locs ls hd hi hT hG hl
      refine lv_iload_n hx hb dX5_unlike_2 rfl (lv_at hl 1 rfl) ?_
      refine lv_aload_n hx hb dX5_unlike_3 rfl (lv_at hl 0 rfl) ?_
      refine q_mn hC hG hS i5 k77 dX5_unlike_4 ?_
      refine n_ge (tgt := 102) hC dX5_unlike_7 (by decide) (by omega) (by omega) (fun c7 => ?_) (fun c7 => ?_)
      · have c7n := Nat.not_lt.mpr c7
        refine lv_iconst (v := -1) hx hb dX5_unlike_102 (by decide) ?_
        exact q_iret (v := (-1)) hC hG hr hlk (⟨by rw [← hT, show n - i = 0 by omega]; rfl, rfl⟩) dX5_unlike_103
      · have c7n := Nat.not_le.mpr c7
        refine lv_iload_n hx hb dX5_unlike_10 rfl (lv_at hl 1 rfl) ?_
        refine n_iconst hC 1 dX5_unlike_11 ?_
        refine n_iadd hC dX5_unlike_12 ?_
        refine lv_istore_n (lv' := [(2, .int (nI (i + 1))), (0, .ref mb), (1, .int (nI i))]) hx hb dX5_unlike_13 rfl hl (by decide) rfl (fun ls hl => ?_)
        have hin : i < n := by omega
        rw [s_i_step hin] at hT
        have loop2 : ∀ (d : Nat) (j : Nat) (H : Heap) (locs : List Loc) (ls : Array Slot), n - j < d → j ≤ n → i < j → (match s_j (m_U M i) n (n - j) with | some j => nI (10 * i + j) | none => s_i (m_U M) n (n - (i + 1))) = m_unlike n M → gw D cA A (sM mb X M) s.heap H locs → lv_has ls 5 [(0, .ref mb), (1, .int (nI i)), (2, .int (nI j))] → W p l e rmX5_unlike s m args below meth c H locs 0 0 (MQ below (mQ D cA A (fun w Y => w = some (.int (m_unlike n M)) ∧ Y = sM mb X M)) args s rmX5_unlike.cells rmX5_unlike.slots A) (F0 m 14 ls []) := by
          intro d
          induction d with
          | zero => intro j H locs ls hd; exact absurd hd (Nat.not_lt_zero _)
          | succ d ih2 =>
            intro j H locs ls hd hj hij hT2 hG hl
            refine lv_iload_n hx hb dX5_unlike_14 rfl (lv_at hl 2 rfl) ?_
            refine lv_aload_n hx hb dX5_unlike_15 rfl (lv_at hl 0 rfl) ?_
            refine q_mn hC hG hS i5 k77 dX5_unlike_16 ?_
            refine n_ge (tgt := 96) hC dX5_unlike_19 (by decide) (by omega) (by omega) (fun c19 => ?_) (fun c19 => ?_)
            · have c19n := Nat.not_lt.mpr c19
              refine n_iinc (n := 1) (k := 1) (lv' := [(1, .int (nI (i + 1))), (0, .ref mb), (2, .int (nI j))]) hC dX5_unlike_96 hl rfl (by decide) rfl (fun ls hl => ?_)
              refine lv_goto (tgt := 2) hx hb dX5_unlike_99 (by decide) ?_
              exact ih (i + 1) _ _ _ (by omega) (by omega) (by rw [← hT2, show n - j = 0 by omega]; rfl) hG (lv_sub hl [1, 0] rfl)
            · have c19n := Nat.not_le.mpr c19
              refine lv_aload_n hx hb dX5_unlike_22 rfl (lv_at hl 0 rfl) ?_
              refine q_mg hC hG hS i5 4 rfl k16 dX5_unlike_23 ?_
              refine lv_iload_n hx hb dX5_unlike_26 rfl (lv_at hl 1 rfl) ?_
              refine q_ml (N := 295) (w := M 4 i) hC hG hS 4 rfl rfl rfl (by omega) rfl dX5_unlike_27 ?_
              have b1 : M 4 i < 2147483648 := by have := hB.1 4 i rfl; first | exact this | (simp [up2, m_cp, m_cpk] at this; exact this) | omega
              refine lv_aload_n hx hb dX5_unlike_28 rfl (lv_at hl 0 rfl) ?_
              refine q_mg hC hG hS i5 4 rfl k16 dX5_unlike_29 ?_
              refine lv_iload_n hx hb dX5_unlike_32 rfl (lv_at hl 2 rfl) ?_
              refine q_ml (N := 295) (w := M 4 j) hC hG hS 4 rfl rfl rfl (by omega) rfl dX5_unlike_33 ?_
              have b2 : M 4 j < 2147483648 := by have := hB.1 4 j rfl; first | exact this | (simp [up2, m_cp, m_cpk] at this; exact this) | omega
              refine q_callS (rest := []) (k_X5_lesser l D cA A _ (M 4 i) (M 4 j) (by omega) (by omega)) hC hG 2 gX5_unlike_X5_lesser rfl (by decide +kernel) ⟨by decide, by decide⟩ rfl hl.1 rfl (by simp [Value.category]) dX5_unlike_34 ⟨Nat.le_of_ble_eq_true rfl, Nat.le_of_ble_eq_true rfl⟩ (fun v Y H locs hq hG => ?_)
              obtain ⟨rfl, rfl⟩ := hq
              have q34 := m_les_le (M 4 i) (M 4 j)
              refine lv_istore_n (lv' := [(3, .int (nI (m_les (M 4 i) (M 4 j)))), (0, .ref mb), (1, .int (nI i)), (2, .int (nI j))]) hx hb dX5_unlike_37 rfl hl (by decide) rfl (fun ls hl => ?_)
              refine n_iconst hC 0 dX5_unlike_38 ?_
              refine lv_istore (lv' := [(4, .int (nI 0)), (3, .int (nI (m_les (M 4 i) (M 4 j)))), (0, .ref mb), (1, .int (nI i)), (2, .int (nI j))]) hx hb dX5_unlike_39 hl (by decide) rfl (fun ls hl => ?_)
              have hjn : j < n := by omega
              have hLi := hL i (by omega)
              have hLj := hL j (by omega)
              rw [s_j_step hjn] at hT2
              have loop3 : ∀ (d : Nat) (k : Nat) (H : Heap) (locs : List Loc) (ls : Array Slot), 96 - k < d → k ≤ 6 * m_les (M 4 i) (M 4 j) → m_sm M i j k = true → gw D cA A (sM mb X M) s.heap H locs → lv_has ls 5 [(0, .ref mb), (1, .int (nI i)), (2, .int (nI j)), (3, .int (nI (m_les (M 4 i) (M 4 j)))), (4, .int (nI k))] → W p l e rmX5_unlike s m args below meth c H locs 0 0 (MQ below (mQ D cA A (fun w Y => w = some (.int (m_unlike n M)) ∧ Y = sM mb X M)) args s rmX5_unlike.cells rmX5_unlike.slots A) (F0 m 41 ls []) := by
                intro d
                induction d with
                | zero => intro k H locs ls hd; exact absurd hd (Nat.not_lt_zero _)
                | succ d ih3 =>
                  intro k H locs ls hd hk hw hG hl
                  refine lv_iload hx hb dX5_unlike_41 (lv_at hl 4 rfl) ?_
                  refine n_bipush hC 6 (by decide) dX5_unlike_43 ?_
                  refine lv_iload_n hx hb dX5_unlike_45 rfl (lv_at hl 3 rfl) ?_
                  refine n_imul hC dX5_unlike_46 ?_
                  refine n_ge (tgt := 90) hC dX5_unlike_47 (by decide) (by omega) (by omega) (fun c47 => ?_) (fun c47 => ?_)
                  · have c47n := Nat.not_lt.mpr c47
                    refine n_iinc (n := 1) (k := 2) (lv' := [(2, .int (nI (j + 1))), (0, .ref mb), (1, .int (nI i)), (3, .int (nI (m_les (M 4 i) (M 4 j)))), (4, .int (nI k))]) hC dX5_unlike_90 hl rfl (by decide) rfl (fun ls hl => ?_)
                    refine lv_goto (tgt := 14) hx hb dX5_unlike_93 (by decide) ?_
                    exact ih2 (j + 1) _ _ _ (by omega) (by omega) (by omega) (by rw [← hT2, if_neg (by rw [m_U, ← show k = 6 * m_les (M 4 i) (M 4 j) by omega, hw]; decide)]) hG (lv_sub hl [1, 2, 0] rfl)
                  · have c47n := Nat.not_le.mpr c47
                    refine lv_aload_n hx hb dX5_unlike_50 rfl (lv_at hl 0 rfl) ?_
                    refine q_mg hC hG hS i5 2 rfl k7 dX5_unlike_51 ?_
                    refine n_bipush hC 96 (by decide) dX5_unlike_54 ?_
                    refine lv_iload_n hx hb dX5_unlike_56 rfl (lv_at hl 1 rfl) ?_
                    refine n_imul hC dX5_unlike_57 ?_
                    refine lv_iload hx hb dX5_unlike_58 (lv_at hl 4 rfl) ?_
                    refine n_iadd hC dX5_unlike_60 ?_
                    refine q_ml (N := 28320) (w := M 2 ((96 * i) + k)) hC hG hS 2 rfl rfl rfl (by omega) rfl dX5_unlike_61 ?_
                    refine lv_aload_n hx hb dX5_unlike_62 rfl (lv_at hl 0 rfl) ?_
                    refine q_mg hC hG hS i5 2 rfl k7 dX5_unlike_63 ?_
                    refine n_bipush hC 96 (by decide) dX5_unlike_66 ?_
                    refine lv_iload_n hx hb dX5_unlike_68 rfl (lv_at hl 2 rfl) ?_
                    refine n_imul hC dX5_unlike_69 ?_
                    refine lv_iload hx hb dX5_unlike_70 (lv_at hl 4 rfl) ?_
                    refine n_iadd hC dX5_unlike_72 ?_
                    refine q_ml (N := 28320) (w := M 2 ((96 * j) + k)) hC hG hS 2 rfl rfl rfl (by omega) rfl dX5_unlike_73 ?_
                    refine lv_icmp_eq (tgt := 84) hx hb dX5_unlike_74 (by decide) (fun c74 => ?_) (fun c74 => ?_)
                    · refine n_iinc (n := 1) (k := 4) (lv' := [(4, .int (nI (k + 1))), (0, .ref mb), (1, .int (nI i)), (2, .int (nI j)), (3, .int (nI (m_les (M 4 i) (M 4 j))))]) hC dX5_unlike_84 hl rfl (by decide) rfl (fun ls hl => ?_)
                      refine lv_goto (tgt := 41) hx hb dX5_unlike_87 (by decide) ?_
                      exact ih3 (k + 1) _ _ _ (by omega) (by omega) (by rw [m_sm, hw, c74]; simp) hG (lv_sub hl [1, 2, 3, 4, 0] rfl)
                    · refine n_bipush hC 10 (by decide) dX5_unlike_77 ?_
                      refine lv_iload_n hx hb dX5_unlike_79 rfl (lv_at hl 1 rfl) ?_
                      refine n_imul hC dX5_unlike_80 ?_
                      refine lv_iload_n hx hb dX5_unlike_81 rfl (lv_at hl 2 rfl) ?_
                      refine n_iadd hC dX5_unlike_82 ?_
                      exact q_iret (v := (nI ((10 * i) + j))) hC hG hr hlk (⟨by rw [← hT2, if_pos (by rw [m_U, m_sm_f (k := k + 1) (by rw [m_sm, hw]; simp [c74]) _ (by omega)]; rfl)], rfl⟩) dX5_unlike_83
              exact loop3 97 0 _ _ _ (by omega) (by omega) rfl hG (lv_sub hl [2, 3, 4, 1, 0] rfl)
        exact loop2 (n + 1) (i + 1) _ _ _ (by omega) (by omega) (by omega) hT hG (lv_sub hl [1, 2, 0] rfl)
  refine n_iconst hC 0 dX5_unlike_0 ?_
  refine lv_istore_n (lv' := [(1, .int (nI 0)), (0, .ref mb)]) hx hb dX5_unlike_1 rfl hl (by decide) rfl (fun ls hl => ?_)
  exact loop1 (n + 1) 0 _ _ _ (by omega) (by omega) rfl hG (lv_sub hl [1, 0] rfl)
