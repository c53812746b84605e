def c_ah (c1 m1 c2 m2 : Nat) : Nat := if c1 = c2 then (if m1 ≤ m2 then 0 else 1) else if c1 ≤ c2 then 0 else 1
theorem c_ah_le (c1 m1 c2 m2 : Nat) : c_ah c1 m1 c2 m2 ≤ 1 := by unfold c_ah; split <;> split <;> decide

abbrev rmX2_isAhead : Room := { frames := 1, cells := 0, slots := 0, locals := 20 }
set_option maxHeartbeats 4000000 in
set_option maxRecDepth 100000 in
theorem k_X2_isAhead (l : Launch) (D : va_G) (cA : Nat → ClassId) (A : Nat → Prop) {b n f : Nat} {X : Mem} {M : MM} {P : Nat → Nat} (hs : Sd b n f X M) (hJ : J M) {q1 c1 g1 q2 c2 g2 : Nat} (hv1 : VL b n X M q1 c1 g1) (hv2 : VL b n X M q2 c2 g2) (hc1 : c1 < 2147483648) (hc2 : c2 < 2147483648) : mt l D cA A yX2_isAhead wsX2_isAhead rmX2_isAhead [.ref q1, .ref q2] (cM b n X M P) (fun w Y => w = some (.int (nI (c_ah c1 (M 3 g1) c2 (M 3 g2)))) ∧ Y = cM b n X M P) := by
  refine q_start (by decide) rfl (Nat.le_of_ble_eq_true rfl) (fun p e s m args below meth c H locs hC hr hlk hnm hG ls hl => ?_)
  have hl : lv_has ls 2 [(0, .ref q1), (1, .ref q2)] := hl
  have hx := hC.1.1
  have hb := hC.1.2.1
  have hts := hC.1.2.2.2.2
  have i0 : ∀ w ∈ wsX00, w ∈ wsX2_isAhead := by decide +kernel
  have hnf := g_nf hs
  have hB := hJ.1
  have hL := hJ.2.1
  have hE := hJ.2.2.1
  obtain ⟨xk, x4, x5, xg, lx, xr, xl⟩ := hv1
  obtain ⟨yk, y4, y5, yg, ly, yr, yl⟩ := hv2
  have hLx := hL g1 xg
  have hLy := hL g2 yg
  have k151 := hts (.fieldLink RX2 151 "ViewStamps$Letter" "log" "LViewStamps$Log;") (by decide +kernel)
  have k172 := hts (.fieldLink RX2 172 "ViewStamps$Letter" "count" "I") (by decide +kernel)
  refine lv_aload_n hx hb dX2_isAhead_0 rfl (lv_at hl 0 rfl) ?_
  refine q_gw (w := c1) hC hG cF0 i0 xk 5 (by decide) rfl ((g_iv hs (Or.inl xk) 5).trans x5) k172 dX2_isAhead_1 ?_
  refine lv_aload_n hx hb dX2_isAhead_4 rfl (lv_at hl 1 rfl) ?_
  refine q_gw (w := c2) hC hG cF0 i0 yk 5 (by decide) rfl ((g_iv hs (Or.inl yk) 5).trans y5) k172 dX2_isAhead_5 ?_
  refine n_eq (tgt := 28) hC dX2_isAhead_8 (by decide) (by omega) (by omega) (fun c8 => ?_) (fun c8 => ?_)
  · refine lv_aload_n hx hb dX2_isAhead_28 rfl (lv_at hl 0 rfl) ?_
    refine q_getr hC hG cF0 i0 xk 6 (by decide) rfl xr k151 dX2_isAhead_29 ?_
    refine q_callV (rest := []) (k_X1_size l D cA A hs xl hLx.1) hC hG cF1 xl.1 0 gX2_isAhead_X1_size rfl (by decide +kernel) ⟨by decide, by decide⟩ rfl hl.1 rfl (by simp [Value.category]) dX2_isAhead_32 ⟨Nat.le_of_ble_eq_true rfl, Nat.le_of_ble_eq_true rfl⟩ (fun v Y H locs hq hG => ?_)
    obtain ⟨rfl, rfl⟩ := hq
    refine lv_aload_n hx hb dX2_isAhead_35 rfl (lv_at hl 1 rfl) ?_
    refine q_getr hC hG cF0 i0 yk 6 (by decide) rfl yr k151 dX2_isAhead_36 ?_
    refine q_callV (rest := [.int (nI (M 3 g1))]) (k_X1_size l D cA A hs yl hLy.1) hC hG cF1 yl.1 0 gX2_isAhead_X1_size rfl (by decide +kernel) ⟨by decide, by decide⟩ rfl hl.1 rfl (by simp [Value.category]) dX2_isAhead_39 ⟨Nat.le_of_ble_eq_true rfl, Nat.le_of_ble_eq_true rfl⟩ (fun v Y H locs hq hG => ?_)
    obtain ⟨rfl, rfl⟩ := hq
    refine n_le (tgt := 49) hC dX2_isAhead_42 (by decide) (by omega) (by omega) (fun c42 => ?_) (fun c42 => ?_)
    · have c42n := Nat.not_lt.mpr c42
      refine n_iconst hC 0 dX2_isAhead_49 ?_
      exact q_zret (v := 0) hC hG hr hlk (by first | decide | omega) (⟨by simp only [c_ah, if_pos c8, if_pos c42, if_neg c42n], rfl⟩) dX2_isAhead_50
    · have c42n := Nat.not_le.mpr c42
      refine n_iconst hC 1 dX2_isAhead_45 ?_
      refine lv_goto (tgt := 50) hx hb dX2_isAhead_46 (by decide) ?_
      exact q_zret (v := 1) hC hG hr hlk (by first | decide | omega) (⟨by simp only [c_ah, if_pos c8, if_pos c42, if_neg c42n], rfl⟩) dX2_isAhead_50
  · refine lv_aload_n hx hb dX2_isAhead_11 rfl (lv_at hl 0 rfl) ?_
    refine q_gw (w := c1) hC hG cF0 i0 xk 5 (by decide) rfl ((g_iv hs (Or.inl xk) 5).trans x5) k172 dX2_isAhead_12 ?_
    refine lv_aload_n hx hb dX2_isAhead_15 rfl (lv_at hl 1 rfl) ?_
    refine q_gw (w := c2) hC hG cF0 i0 yk 5 (by decide) rfl ((g_iv hs (Or.inl yk) 5).trans y5) k172 dX2_isAhead_16 ?_
    refine n_le (tgt := 26) hC dX2_isAhead_19 (by decide) (by omega) (by omega) (fun c19 => ?_) (fun c19 => ?_)
    · have c19n := Nat.not_lt.mpr c19
      refine n_iconst hC 0 dX2_isAhead_26 ?_
      exact q_zret (v := 0) hC hG hr hlk (by first | decide | omega) (⟨by simp only [c_ah, if_neg c8, if_pos c19, if_neg c19n], rfl⟩) dX2_isAhead_27
    · have c19n := Nat.not_le.mpr c19
      refine n_iconst hC 1 dX2_isAhead_22 ?_
      refine lv_goto (tgt := 27) hx hb dX2_isAhead_23 (by decide) ?_
      exact q_zret (v := 1) hC hG hr hlk (by first | decide | omega) (⟨by simp only [c_ah, if_neg c8, if_pos c19, if_neg c19n], rfl⟩) dX2_isAhead_27

theorem bst_s0 {M : MM} {i j : Nat} (h : M 12 (5 * i + j) = 0) : m_bst M i (j + 1) = m_bst M i j := by rw [m_bst, if_pos h]
theorem bst_sn {M : MM} {i j : Nat} (h : M 12 (5 * i + j) ≠ 0) (hb : m_bst M i j = none) : m_bst M i (j + 1) = some j := by rw [m_bst, if_neg h, hb]
theorem bst_y {M : MM} {i j k : Nat} (h : M 12 (5 * i + j) ≠ 0) (hb : m_bst M i j = some k) (ha : c_ah (M 13 (5 * i + j)) (M 3 (5 + 5 * i + j)) (M 13 (5 * i + k)) (M 3 (5 + 5 * i + k)) ≠ 0) : m_bst M i (j + 1) = some j := by
  rw [m_bst, if_neg h, hb]
  simp only
  unfold c_ah at ha
  by_cases e5 : M 13 (5 * i + j) = M 13 (5 * i + k)
  · rw [if_pos e5] at ha
    by_cases e6 : M 3 (5 + 5 * i + j) ≤ M 3 (5 + 5 * i + k)
    · rw [if_pos e6] at ha; exact absurd rfl ha
    · rw [if_neg (by omega), if_pos ⟨e5, by omega⟩]
  · rw [if_neg e5] at ha
    by_cases e6 : M 13 (5 * i + j) ≤ M 13 (5 * i + k)
    · rw [if_pos e6] at ha; exact absurd rfl ha
    · rw [if_pos (by omega)]
theorem bst_n {M : MM} {i j k : Nat} (h : M 12 (5 * i + j) ≠ 0) (hb : m_bst M i j = some k) (ha : c_ah (M 13 (5 * i + j)) (M 3 (5 + 5 * i + j)) (M 13 (5 * i + k)) (M 3 (5 + 5 * i + k)) = 0) : m_bst M i (j + 1) = some k := by
  rw [m_bst, if_neg h, hb]
  simp only
  unfold c_ah at ha
  by_cases e5 : M 13 (5 * i + j) = M 13 (5 * i + k)
  · rw [if_pos e5] at ha
    by_cases e6 : M 3 (5 + 5 * i + j) ≤ M 3 (5 + 5 * i + k)
    · rw [if_neg (by omega), if_neg (fun z => by omega)]
    · rw [if_neg e6] at ha; exact absurd ha (by decide)
  · rw [if_neg e5] at ha
    by_cases e6 : M 13 (5 * i + j) ≤ M 13 (5 * i + k)
    · rw [if_neg (by omega), if_neg (fun z => e5 z.1)]
    · rw [if_neg e6] at ha; exact absurd ha (by decide)
theorem tv2_no {n f : Nat} {M : MM} {i : Nat} (h : m_cnt M 12 (5 * i) n ≤ f ∨ M 12 (5 * i + i) = 0) : (m_tv2 n f M i).2 = M := by
  unfold m_tv2
  by_cases h1 : m_cnt M 12 (5 * i) n < f + 1
  · rw [if_pos h1]
  · rw [if_neg h1, if_pos (by omega)]
theorem tv2_yes {n f : Nat} {M : MM} {i k0 : Nat} (h : f < m_cnt M 12 (5 * i) n) (h12 : M 12 (5 * i + i) ≠ 0) (hb : m_bst M i n = some k0) : (m_tv2 n f M i).2 = m_fin n (up2 (up2 (up2 (up2 (m_cp M (5 + 5 * i + k0) i) 4 i (m_les (m_mst M i n) (M 3 (5 + 5 * i + k0)))) 6 i (M 6 i)) 7 i (M 6 i)) 5 i 0) i := by
  unfold m_tv2
  rw [if_neg (by omega), if_neg h12, hb]
  show m_fin n (m_z n M i k0) i = _
  have e6 : up2 (m_cp M (5 + 5 * i + k0) i) 4 i (m_les (m_mst M i n) (M 3 (5 + 5 * i + k0))) 6 i = M 6 i := by rw [up2_ne _ _ (by omega), m_cp_o _ _ _ (by decide)]
  unfold m_z
  rw [up2_id e6, up2_comm _ _ _ (show (5 : Nat) ≠ 7 by decide)]

def c_cast (n : Nat) (M : MM) (i : Nat) : MM := if m_fst n (up2 M 8 i 1) i = 0 then m_post (up2 M 8 i 1) i (M 6 i % n) 4 (M 6 i) (M 7 i) else m_vt (up2 M 8 i 1) i i i (M 7 i)

abbrev rmX2_castVote : Room := { frames := 3, cells := 1, slots := 8, locals := 71 }
set_option maxHeartbeats 4000000 in
set_option maxRecDepth 100000 in
theorem k_X2_castVote (l : Launch) (D : va_G) (cA : Nat → ClassId) (A : Nat → Prop) {b n f : Nat} {X : Mem} {M : MM} {P : Nat → Nat} (hs : Sd b n f X M) (hJ : J M) {i : Nat} (hi : i < n) : mt l D cA A yX2_castVote wsX2_castVote rmX2_castVote [.ref (na b i)] (cM b n X M P) (fun w Y => w = none ∧ ∃ X1, Y = cM b n X1 (c_cast n M i) P ∧ Sd b n f X1 (c_cast n M i) ∧ go b n X X1) := by
  refine q_start (by decide) rfl (Nat.le_of_ble_eq_true rfl) (fun p e s m args below meth c H locs hC hr hlk hnm hG ls hl => ?_)
  have hl : lv_has ls 2 [(0, .ref (na b i))] := hl
  have hx := hC.1.1
  have hb := hC.1.2.1
  have hts := hC.1.2.2.2.2
  have i2 : ∀ w ∈ wsX20, w ∈ wsX2_castVote := by decide +kernel
  have hnf := g_nf hs
  have hB := hJ.1
  have hL := hJ.2.1
  have hE := hJ.2.2.1
  have hgo := go_rf b n X
  have k15 := hts (.fieldLink RX2 15 "ViewStamps$Node" "number" "I") (by decide +kernel)
  have k25 := hts (.fieldLink RX2 25 "ViewStamps$Node" "pool" "LViewStamps$Pool;") (by decide +kernel)
  have k38 := hts (.fieldLink RX2 38 "ViewStamps$Node" "votes" "[LViewStamps$Letter;") (by decide +kernel)
  have k51 := hts (.fieldLink RX2 51 "ViewStamps$Node" "view" "I") (by decide +kernel)
  have k54 := hts (.fieldLink RX2 54 "ViewStamps$Node" "lastView" "I") (by decide +kernel)
  have k78 := hts (.fieldLink RX2 78 "ViewStamps$Node" "voted" "Z") (by decide +kernel)
  refine lv_aload_n hx hb dX2_castVote_0 rfl (lv_at hl 0 rfl) ?_
  refine n_iconst hC 1 dX2_castVote_1 ?_
  refine q_puti hC hG cF2 i2 (g_kn hs (by omega)) 16 (by decide) rfl k78 (Or.inl rfl) rfl (by first | rfl | decide) dX2_castVote_2 (fun H locs hG => ?_)
  rw [cM_n16 (by omega)] at hG
  have hs := Sd_to hs (dq_up (k := 8) (y := i) (v := 1) (by omega))
  have hJ := J_up hJ 8 i (v := 1) (by decide) (Or.inl (by omega))
  have hB := hJ.1
  have hL := hJ.2.1
  have hE := hJ.2.2.1
  refine lv_aload_n hx hb dX2_castVote_5 rfl (lv_at hl 0 rfl) ?_
  refine lv_aload_n hx hb dX2_castVote_6 rfl (lv_at hl 0 rfl) ?_
  refine lv_aload_n hx hb dX2_castVote_7 rfl (lv_at hl 0 rfl) ?_
  refine q_gw (w := M 6 i) hC hG cF2 i2 (g_kn hs (by omega)) 10 (by decide) rfl ((g_n10 (by omega)).trans (by simp [up2, m_cp, m_cpk])) k51 dX2_castVote_8 ?_
  have b1 : M 6 i < 2147483648 := by have := hB.1 6 i rfl; first | exact this | (simp [up2, m_cp, m_cpk] at this; exact this) | omega
  refine q_callV (rest := [.ref (na b i)]) (k_X2_firstOf l D cA A hs hJ (i := i) (by omega) (M 6 i) (by omega)) hC hG cF2 (g_kn hs (by omega)) 1 gX2_castVote_X2_firstOf rfl (by decide +kernel) ⟨by decide, by decide⟩ rfl hl.1 rfl (by simp [Value.category]) dX2_castVote_11 ⟨by decide, by decide⟩ (fun v Y H locs hq hG => ?_)
  obtain ⟨rfl, rfl⟩ := hq
  have r11 : (M 6 i) % n < n := Nat.mod_lt _ (by omega)
  refine n_iconst hC 4 dX2_castVote_14 ?_
  refine lv_aload_n hx hb dX2_castVote_15 rfl (lv_at hl 0 rfl) ?_
  refine q_gw (w := M 7 i) hC hG cF2 i2 (g_kn hs (by omega)) 13 (by decide) rfl ((g_n13 (by omega)).trans (by simp [up2, m_cp, m_cpk])) k54 dX2_castVote_16 ?_
  have b2 : M 7 i < 2147483648 := by have := hB.1 7 i rfl; first | exact this | (simp [up2, m_cp, m_cpk] at this; exact this) | omega
  refine q_callV (rest := []) (k_X2_write l D cA A hs hJ (i := i) (by omega) ((M 6 i) % n) 4 (M 7 i) (by omega) (by omega) (by omega)) hC hG cF2 (g_kn hs (by omega)) 3 gX2_castVote_X2_write rfl (by decide +kernel) ⟨by decide, by decide⟩ rfl hl.1 rfl (by simp [Value.category]) dX2_castVote_19 ⟨by decide, by decide⟩ (fun v Y H locs hq hG => ?_)
  obtain ⟨Xw, qw, rfl, rfl, hs, hgw, hw, hwf, hwn⟩ := hq
  refine lv_astore_n (lv' := [(1, .ref qw), (0, .ref (na b i))]) hx hb dX2_castVote_22 rfl hl (by decide) rfl (fun ls hl => ?_)
  refine lv_aload_n hx hb dX2_castVote_23 rfl (lv_at hl 1 rfl) ?_
  refine q_callV (rest := []) (k_X2_isFirst l D cA A hs hJ (i := i) (by omega)) hC hG cF2 (g_kn hs (by omega)) 0 gX2_castVote_X2_isFirst rfl (by decide +kernel) ⟨by decide, by decide⟩ rfl hl.1 rfl (by simp [Value.category]) dX2_castVote_24 ⟨by decide, by decide⟩ (fun v Y H locs hq hG => ?_)
  obtain ⟨rfl, rfl⟩ := hq
  have q24 := m_fst_le n (up2 M 8 i 1) i
  refine n_ifeq (tgt := 43) hC dX2_castVote_27 (by decide) (by omega) (fun c27 => ?_) (fun c27 => ?_)
  · refine lv_aload_n hx hb dX2_castVote_43 rfl (lv_at hl 1 rfl) ?_
    refine q_getr hC hG cF2 i2 (g_kn hs (by omega)) 3 (by decide) rfl (hs.1.2.2.2.2.2.1 i (by omega)).2.1.1 k25 dX2_castVote_44 ?_
    refine lv_aload_n hx hb dX2_castVote_47 rfl (lv_at hl 0 rfl) ?_
    rw [show up2 M 8 i 1 6 i = M 6 i from up2_ne _ _ (by omega)] at hw
    refine q_callV (rest := []) (k_X3_add l D cA A hs hJ (by omega) hw hwf) hC hG cF3 hs.1.2.2.1.1 1 gX2_castVote_X3_add rfl (by decide +kernel) ⟨by decide, by decide⟩ rfl hl.1 rfl (by simp [Value.category]) dX2_castVote_48 ⟨by decide, by decide⟩ (fun v Y H locs hq hG => ?_)
    obtain ⟨rfl, Xa, rfl, hs, hga⟩ := hq
    have hJ := J_post (i := i) (j := (M 6 i) % n) (k := 4) (v := M 6 i) (c := M 7 i) hJ (by omega) (by omega) (by omega) (by first | omega | exact hJ.1.1 6 _ rfl) (by omega)
    have hB := hJ.1
    have hL := hJ.2.1
    have hE := hJ.2.2.1
    have hgo := go_tr hgo (go_tr hgw hga)
    exact q_vret hC hG hr hlk (⟨rfl, _, by simp only [c_cast, if_pos c27], by simp only [c_cast, if_pos c27]; exact hs, hgo⟩) dX2_castVote_51 (h1 := by decide) (h2 := by decide)
  · refine lv_aload_n hx hb dX2_castVote_30 rfl (lv_at hl 1 rfl) ?_
    refine q_getr hC hG cF2 i2 (g_kn hs (by omega)) 5 (by decide) rfl (hs.1.2.2.2.2.2.1 i (by omega)).2.1.2.2.1 k38 dX2_castVote_31 ?_
    refine lv_aload_n hx hb dX2_castVote_34 rfl (lv_at hl 1 rfl) ?_
    refine q_gw (w := i) hC hG cF2 i2 (g_kn hs (by omega)) 0 (by decide) rfl (g_n0 hs (by omega)) k15 dX2_castVote_35 ?_
    refine lv_aload_n hx hb dX2_castVote_38 rfl (lv_at hl 0 rfl) ?_
    obtain ⟨⟨w1, w2, w3, w4, w5, w6, w7⟩, lgw, w8, w9, -⟩ := id hw
    obtain ⟨w10, w11⟩ := w9 (by decide)
    refine q_aast (n := n) hC hG (Or.inl ⟨(show kd Xw (na b i + 2) = 9 ∧ ln Xw (na b i + 2) = n from ⟨(hs.1.2.2.2.2.2.1 i (by omega)).2.2.2.2.1, (hs.1.2.2.2.2.2.1 i (by omega)).2.2.2.2.2.1⟩).1, w1⟩) (show kd Xw (na b i + 2) = 9 ∧ ln Xw (na b i + 2) = n from ⟨(hs.1.2.2.2.2.2.1 i (by omega)).2.2.2.2.1, (hs.1.2.2.2.2.2.1 i (by omega)).2.2.2.2.2.1⟩).2 (by omega) (by omega) dX2_castVote_39 (fun H locs hG => ?_)
    rw [cM_wR] at hG
    obtain ⟨ec, hs, hgv, hJ⟩ := c_vote (i := i) (j := i) P hs hJ (by omega) (by omega) (c := M 7 i) (by omega) ⟨w1, w10, w6, by omega, lgw, w8, w11⟩
    rw [ec] at hG
    have hgo := go_tr hgo (go_tr hgw hgv)
    have hB := hJ.1
    have hL := hJ.2.1
    have hE := hJ.2.2.1
    refine lv_goto (tgt := 51) hx hb dX2_castVote_40 (by decide) ?_
    exact q_vret hC hG hr hlk (⟨rfl, _, by simp only [c_cast, if_neg c27], by simp only [c_cast, if_neg c27]; exact hs, hgo⟩) dX2_castVote_51 (h1 := by decide) (h2 := by decide)

abbrev rmX2_leadIfElected : Room := { frames := 4, cells := 5, slots := 40, locals := 94 }
set_option maxHeartbeats 4000000 in
set_option maxRecDepth 100000 in
theorem k_X2_leadIfElected (l : Launch) (D : va_G) (cA : Nat → ClassId) (A : Nat → Prop) {b n f : Nat} {X : Mem} {M : MM} {P : Nat → Nat} (hs : Sd b n f X M) (hJ : J M) {i : Nat} (hi : i < n) : mt l D cA A yX2_leadIfElected wsX2_leadIfElected rmX2_leadIfElected [.ref (na b i)] (cM b n X M P) (fun w Y => w = none ∧ ∃ X1, Y = cM b n X1 ((m_tv2 n f M i).2) P ∧ Sd b n f X1 ((m_tv2 n f M i).2) ∧ go b n X X1) := by
  refine q_start (by decide) rfl (Nat.le_of_ble_eq_true rfl) (fun p e s m args below meth c H locs hC hr hlk hnm hG ls hl => ?_)
  have hl : lv_has ls 7 [(0, .ref (na b i))] := hl
  have hx := hC.1.1
  have hb := hC.1.2.1
  have hts := hC.1.2.2.2.2
  have i2 : ∀ w ∈ wsX20, w ∈ wsX2_leadIfElected := by decide +kernel
  have i0 : ∀ w ∈ wsX00, w ∈ wsX2_leadIfElected := by decide +kernel
  have hnf := g_nf hs
  have hB := hJ.1
  have hL := hJ.2.1
  have hE := hJ.2.2.1
  have hgo := go_rf b n X
  have k15 := hts (.fieldLink RX2 15 "ViewStamps$Node" "number" "I") (by decide +kernel)
  have k22 := hts (.fieldLink RX2 22 "ViewStamps$Node" "enough" "I") (by decide +kernel)
  have k33 := hts (.fieldLink RX2 33 "ViewStamps$Node" "log" "LViewStamps$Log;") (by decide +kernel)
  have k38 := hts (.fieldLink RX2 38 "ViewStamps$Node" "votes" "[LViewStamps$Letter;") (by decide +kernel)
  have k45 := hts (.fieldLink RX2 45 "ViewStamps$Node" "told" "[I") (by decide +kernel)
  have k51 := hts (.fieldLink RX2 51 "ViewStamps$Node" "view" "I") (by decide +kernel)
  have k62 := hts (.fieldLink RX2 62 "ViewStamps$Node" "sure" "I") (by decide +kernel)
  have k151 := hts (.fieldLink RX2 151 "ViewStamps$Letter" "log" "LViewStamps$Log;") (by decide +kernel)
  have k152 := hts (.fieldLink RX2 152 "ViewStamps$Letter" "sure" "I") (by decide +kernel)
  refine lv_aload_n hx hb dX2_leadIfElected_0 rfl (lv_at hl 0 rfl) ?_
  refine q_getr hC hG cF2 i2 (g_kn hs (by omega)) 5 (by decide) rfl (hs.1.2.2.2.2.2.1 i (by omega)).2.1.2.2.1 k38 dX2_leadIfElected_1 ?_
  refine lv_aload_n hx hb dX2_leadIfElected_4 rfl (lv_at hl 0 rfl) ?_
  refine q_gw (w := i) hC hG cF2 i2 (g_kn hs (by omega)) 0 (by decide) rfl (g_n0 hs (by omega)) k15 dX2_leadIfElected_5 ?_
  have hVo := hs.2.2.2.2.1 i i (by omega) (by omega)
  by_cases h12o : M 12 (5 * i + i) = 0
  · refine q_aw (v := .null) hC hG (Or.inl (show kd X (na b i + 2) = 9 ∧ ln X (na b i + 2) = n from ⟨(hs.1.2.2.2.2.2.1 i (by omega)).2.2.2.2.1, (hs.1.2.2.2.2.2.1 i (by omega)).2.2.2.2.2.1⟩).1) (show kd X (na b i + 2) = 9 ∧ ln X (na b i + 2) = n from ⟨(hs.1.2.2.2.2.2.1 i (by omega)).2.2.2.2.1, (hs.1.2.2.2.2.2.1 i (by omega)).2.2.2.2.2.1⟩).2 (by omega) (by omega) (by rw [show rv (cM b n X M P) (na b i + 2) (i) = none from hVo.1 h12o]; rfl) dX2_leadIfElected_8 ?_
    refine lv_ifnullN (tgt := 26) hx hb dX2_leadIfElected_9 (by decide) ?_
    exact q_vret hC hG hr hlk (⟨rfl, X, by rw [tv2_no (by omega)], by rw [tv2_no (by omega)]; exact hs, go_rf b n X⟩) dX2_leadIfElected_26 (h1 := by decide) (h2 := by decide)
  · obtain ⟨qo, lo, voa, vok, vo4, vo5, vor, vol⟩ := hVo.2 h12o
    refine q_aw (v := .ref qo) hC hG (Or.inl (show kd X (na b i + 2) = 9 ∧ ln X (na b i + 2) = n from ⟨(hs.1.2.2.2.2.2.1 i (by omega)).2.2.2.2.1, (hs.1.2.2.2.2.2.1 i (by omega)).2.2.2.2.2.1⟩).1) (show kd X (na b i + 2) = 9 ∧ ln X (na b i + 2) = n from ⟨(hs.1.2.2.2.2.2.1 i (by omega)).2.2.2.2.1, (hs.1.2.2.2.2.2.1 i (by omega)).2.2.2.2.2.1⟩).2 (by omega) (by omega) (by rw [show rv (cM b n X M P) (na b i + 2) (i) = some qo from voa]; rfl) dX2_leadIfElected_8 ?_
    have hLo := hL (5 + 5 * i + i) (by omega)
    have b13o := hB.1 13 (5 * i + i) rfl
    have b4o := hB.1 4 (5 + 5 * i + i) rfl
    refine lv_ifnull hx hb dX2_leadIfElected_9 ?_
    refine lv_aload_n hx hb dX2_leadIfElected_12 rfl (lv_at hl 0 rfl) ?_
    refine q_getr hC hG cF2 i2 (g_kn hs (by omega)) 5 (by decide) rfl (hs.1.2.2.2.2.2.1 i (by omega)).2.1.2.2.1 k38 dX2_leadIfElected_13 ?_
    refine q_callS (rest := []) (k_X2_countLetters l D cA A (Z := cM b n X M P) (a := na b i + 2) (z0 := n) (show kd X (na b i + 2) = 9 ∧ ln X (na b i + 2) = n from ⟨(hs.1.2.2.2.2.2.1 i (by omega)).2.2.2.2.1, (hs.1.2.2.2.2.2.1 i (by omega)).2.2.2.2.2.1⟩).1 (show kd X (na b i + 2) = 9 ∧ ln X (na b i + 2) = n from ⟨(hs.1.2.2.2.2.2.1 i (by omega)).2.2.2.2.1, (hs.1.2.2.2.2.2.1 i (by omega)).2.2.2.2.2.1⟩).2 (by omega)) hC hG 1 gX2_leadIfElected_X2_countLetters rfl (by decide +kernel) ⟨by decide, by decide⟩ rfl hl.1 rfl (by simp [Value.category]) dX2_leadIfElected_16 ⟨by decide, by decide⟩ (fun v Y H locs hq hG => ?_)
    obtain ⟨rfl, rfl⟩ := hq
    rw [show c_cl (rv (cM b n X M P) (na b i + 2)) n = m_cnt M 12 (5 * i) n from (show c_cl (rv X (na b i + 2)) n = _ from c_votes hs (by omega))]
    have q16 := m_cnt_le M 12 (5 * i) n
    refine lv_aload_n hx hb dX2_leadIfElected_19 rfl (lv_at hl 0 rfl) ?_
    refine q_gw (w := f) hC hG cF2 i2 (g_kn hs (by omega)) 2 (by decide) rfl (g_n2 hs (by omega)) k22 dX2_leadIfElected_20 ?_
    refine n_gt (tgt := 27) hC dX2_leadIfElected_23 (by decide) (by omega) (by omega) (fun c23 => ?_) (fun c23 => ?_)
    · have c23n := Nat.not_le.mpr c23
      refine lv_null hx hb dX2_leadIfElected_27 ?_
      refine lv_astore_nN (lv' := [(1, .null), (0, .ref (na b i))]) hx hb dX2_leadIfElected_28 rfl hl (by decide) rfl (fun ls hl => ?_)
      refine n_iconst hC 0 dX2_leadIfElected_29 ?_
      refine lv_istore_n (lv' := [(2, .int (nI 0)), (1, .null), (0, .ref (na b i))]) hx hb dX2_leadIfElected_30 rfl hl (by decide) rfl (fun ls hl => ?_)
      refine lv_aload_n hx hb dX2_leadIfElected_31 rfl (lv_at hl 2 rfl) ?_
      refine q_getr hC hG cF2 i2 (g_kn hs (by omega)) 5 (by decide) rfl (hs.1.2.2.2.2.2.1 i (by omega)).2.1.2.2.1 k38 dX2_leadIfElected_32 ?_
      refine lv_astore_n (lv' := [(3, .ref (na b i + 2)), (2, .int (nI 0)), (1, .null), (0, .ref (na b i))]) hx hb dX2_leadIfElected_35 rfl hl (by decide) rfl (fun ls hl => ?_)
      refine lv_aload_n hx hb dX2_leadIfElected_36 rfl (lv_at hl 0 rfl) ?_
      refine q_alen hC hG (k := 9) (show kd X (na b i + 2) = 9 ∧ ln X (na b i + 2) = n from ⟨(hs.1.2.2.2.2.2.1 i (by omega)).2.2.2.2.1, (hs.1.2.2.2.2.2.1 i (by omega)).2.2.2.2.2.1⟩).1 (by decide) (by decide) (show kd X (na b i + 2) = 9 ∧ ln X (na b i + 2) = n from ⟨(hs.1.2.2.2.2.2.1 i (by omega)).2.2.2.2.1, (hs.1.2.2.2.2.2.1 i (by omega)).2.2.2.2.2.1⟩).2 dX2_leadIfElected_37 ?_
      refine lv_istore (lv' := [(4, .int (nI n)), (3, .ref (na b i + 2)), (2, .int (nI 0)), (1, .null), (0, .ref (na b i))]) hx hb dX2_leadIfElected_38 hl (by decide) rfl (fun ls hl => ?_)
      refine n_iconst hC 0 dX2_leadIfElected_40 ?_
      refine lv_istore (lv' := [(5, .int (nI 0)), (4, .int (nI n)), (3, .ref (na b i + 2)), (2, .int (nI 0)), (1, .null), (0, .ref (na b i))]) hx hb dX2_leadIfElected_41 hl (by decide) rfl (fun ls hl => ?_)
      have loop : ∀ (d : Nat) (j : Nat) (br : Option Nat) (H : Heap) (locs : List Loc) (ls : Array Slot), n - j < d → j ≤ n → br = (m_bst M i j).bind (rv X (na b i + 2)) → gw D cA A (cM b n X M P) s.heap H locs → lv_has ls 7 [(0, .ref (na b i)), (1, va_rf br), (2, .int (nI (m_mst M i j))), (3, .ref (na b i + 2)), (4, .int (nI n)), (5, .int (nI j))] → W p l e rmX2_leadIfElected s m args below meth c H locs 0 0 (MQ below (mQ D cA A (fun w Y => w = none ∧ ∃ X1, Y = cM b n X1 ((m_tv2 n f M i).2) P ∧ Sd b n f X1 ((m_tv2 n f M i).2) ∧ go b n X X1)) args s rmX2_leadIfElected.cells rmX2_leadIfElected.slots A) (F0 m 43 ls []) := by
        intro d
        induction d with
        | zero => intro j br H locs ls hd; exact absurd hd (Nat.not_lt_zero _)
        | succ d ih =>
          intro j br H locs ls hd hj hbr hG hl
          have hms := m_mst_lt hJ.1 i j
          cases hbb : m_bst M i j with
          | none =>
            have hl : lv_has ls 7 [(0, .ref (na b i)), (1, .null), (2, .int (nI (m_mst M i j))), (3, .ref (na b i + 2)), (4, .int (nI n)), (5, .int (nI j))] := by rw [hbr, hbb] at hl; exact hl
            have hnb : ¬ j = n := fun z => by obtain ⟨b0, -, hb1⟩ := m_bst_some M i n (by omega); rw [z] at hbb; rw [hbb] at hb1; cases hb1
            refine lv_iload hx hb dX2_leadIfElected_43 (lv_at hl 5 rfl) ?_
            refine lv_iload hx hb dX2_leadIfElected_45 (lv_at hl 4 rfl) ?_
            refine n_ge (tgt := 97) hC dX2_leadIfElected_47 (by decide) (by omega) (by omega) (fun c47 => ?_) (fun c47 => ?_)
            · have c47n := Nat.not_lt.mpr c47
              refine lv_aload_nN hx hb dX2_leadIfElected_97 rfl (lv_at hl 1 rfl) ?_
              refine lv_ifnonnullN hx hb dX2_leadIfElected_98 ?_
              exact q_vret hC hG hr hlk (absurd (show j = n by omega) hnb) dX2_leadIfElected_101 (h1 := by decide) (h2 := by decide)
            · have c47n := Nat.not_le.mpr c47
              refine lv_aload_n hx hb dX2_leadIfElected_50 rfl (lv_at hl 3 rfl) ?_
              refine lv_iload hx hb dX2_leadIfElected_51 (lv_at hl 5 rfl) ?_
              have hVv := hs.2.2.2.2.1 i j (by omega) (by omega)
              by_cases h12v : M 12 (5 * i + j) = 0
              · refine q_aw (v := .null) hC hG (Or.inl (show kd X (na b i + 2) = 9 ∧ ln X (na b i + 2) = n from ⟨(hs.1.2.2.2.2.2.1 i (by omega)).2.2.2.2.1, (hs.1.2.2.2.2.2.1 i (by omega)).2.2.2.2.2.1⟩).1) (show kd X (na b i + 2) = 9 ∧ ln X (na b i + 2) = n from ⟨(hs.1.2.2.2.2.2.1 i (by omega)).2.2.2.2.1, (hs.1.2.2.2.2.2.1 i (by omega)).2.2.2.2.2.1⟩).2 (by omega) (by omega) (by rw [show rv (cM b n X M P) (na b i + 2) (j) = none from hVv.1 h12v]; rfl) dX2_leadIfElected_53 ?_
                refine lv_astoreN (lv' := [(6, .null), (0, .ref (na b i)), (1, .null), (2, .int (nI (m_mst M i j))), (3, .ref (na b i + 2)), (4, .int (nI n)), (5, .int (nI j))]) hx hb dX2_leadIfElected_54 hl (by decide) rfl (fun ls hl => ?_)
                refine lv_aloadN hx hb dX2_leadIfElected_56 (lv_at hl 0 rfl) ?_
                refine lv_ifnullN (tgt := 91) hx hb dX2_leadIfElected_58 (by decide) ?_
                refine n_iinc (n := 1) (k := 6) (lv' := [(5, .int (nI (j + 1))), (6, .null), (0, .ref (na b i)), (1, .null), (2, .int (nI (m_mst M i j))), (3, .ref (na b i + 2)), (4, .int (nI n))]) hC dX2_leadIfElected_91 hl rfl (by decide) rfl (fun ls hl => ?_)
                refine lv_goto (tgt := 43) hx hb dX2_leadIfElected_94 (by decide) ?_
                have e1 : m_bst M i (j + 1) = none := (bst_s0 h12v).trans hbb
                have e2 : m_mst M i (j + 1) = m_mst M i j := by rw [m_mst, if_pos h12v]
                exact ih (j + 1) (none) _ _ _ (by omega) (by omega) (by rw [e1]; rfl) hG (by rw [e2]; exact (lv_sub hl [2, 3, 4, 5, 6, 0] rfl))
              · obtain ⟨qv, lv, vva, vvk, vv4, vv5, vvr, vvl⟩ := hVv.2 h12v
                refine q_aw (v := .ref qv) hC hG (Or.inl (show kd X (na b i + 2) = 9 ∧ ln X (na b i + 2) = n from ⟨(hs.1.2.2.2.2.2.1 i (by omega)).2.2.2.2.1, (hs.1.2.2.2.2.2.1 i (by omega)).2.2.2.2.2.1⟩).1) (show kd X (na b i + 2) = 9 ∧ ln X (na b i + 2) = n from ⟨(hs.1.2.2.2.2.2.1 i (by omega)).2.2.2.2.1, (hs.1.2.2.2.2.2.1 i (by omega)).2.2.2.2.2.1⟩).2 (by omega) (by omega) (by rw [show rv (cM b n X M P) (na b i + 2) (j) = some qv from vva]; rfl) dX2_leadIfElected_53 ?_
                have hLv := hL (5 + 5 * i + j) (by omega)
                have b13v := hB.1 13 (5 * i + j) rfl
                have b4v := hB.1 4 (5 + 5 * i + j) rfl
                refine lv_astore (lv' := [(6, .ref qv), (0, .ref (na b i)), (1, .null), (2, .int (nI (m_mst M i j))), (3, .ref (na b i + 2)), (4, .int (nI n)), (5, .int (nI j))]) hx hb dX2_leadIfElected_54 hl (by decide) rfl (fun ls hl => ?_)
                refine lv_aload hx hb dX2_leadIfElected_56 (lv_at hl 0 rfl) ?_
                refine lv_ifnull hx hb dX2_leadIfElected_58 ?_
                refine lv_aload_nN hx hb dX2_leadIfElected_61 rfl (lv_at hl 2 rfl) ?_
                refine lv_ifnullN (tgt := 74) hx hb dX2_leadIfElected_62 (by decide) ?_
                refine lv_aload hx hb dX2_leadIfElected_74 (lv_at hl 0 rfl) ?_
                refine lv_goto (tgt := 80) hx hb dX2_leadIfElected_76 (by decide) ?_
                refine lv_astore_n (lv' := [(1, .ref qv), (6, .ref qv), (0, .ref (na b i)), (2, .int (nI (m_mst M i j))), (3, .ref (na b i + 2)), (4, .int (nI n)), (5, .int (nI j))]) hx hb dX2_leadIfElected_80 rfl hl (by decide) rfl (fun ls hl => ?_)
                refine lv_iload_n hx hb dX2_leadIfElected_81 rfl (lv_at hl 3 rfl) ?_
                refine lv_aload hx hb dX2_leadIfElected_82 (lv_at hl 1 rfl) ?_
                refine q_gw (w := M 4 (5 + 5 * i + j)) hC hG cF0 i0 vvk 4 (by decide) rfl ((g_iv hs (Or.inl vvk) 4).trans vv4) k152 dX2_leadIfElected_84 ?_
                refine n_max hC hl.1 (hts (.methodLink RX2 153 Lib.Math.max.name) (by decide +kernel)) (hts (.static Lib.Math.max.name) (by decide +kernel)) (hts (.initialized "java/lang/Math") (by decide +kernel)) (hts (.code Lib.Math.max.name Lib.Math.max.code 2 (some .int)) (by decide +kernel)) (by decide) (by simp [Value.category]) (by first | exact Nat.zero_le _ | decide | (simp only [rmX2_leadIfElected]; omega)) (by first | exact Nat.zero_le _ | decide | (simp only [rmX2_leadIfElected]; omega)) (by omega) (by omega) dX2_leadIfElected_87 ?_
                have q87 : m_gre (m_mst M i j) (M 4 (5 + 5 * i + j)) < 2147483648 := m_gre_le (by omega) (by omega)
                refine lv_istore_n (lv' := [(2, .int (nI (m_gre (m_mst M i j) (M 4 (5 + 5 * i + j))))), (1, .ref qv), (6, .ref qv), (0, .ref (na b i)), (3, .ref (na b i + 2)), (4, .int (nI n)), (5, .int (nI j))]) hx hb dX2_leadIfElected_90 rfl hl (by decide) rfl (fun ls hl => ?_)
                refine n_iinc (n := 1) (k := 6) (lv' := [(5, .int (nI (j + 1))), (2, .int (nI (m_gre (m_mst M i j) (M 4 (5 + 5 * i + j))))), (1, .ref qv), (6, .ref qv), (0, .ref (na b i)), (3, .ref (na b i + 2)), (4, .int (nI n))]) hC dX2_leadIfElected_91 hl rfl (by decide) rfl (fun ls hl => ?_)
                refine lv_goto (tgt := 43) hx hb dX2_leadIfElected_94 (by decide) ?_
                have e1 : m_bst M i (j + 1) = some j := bst_sn h12v hbb
                have e2 : m_mst M i (j + 1) = m_gre (m_mst M i j) (M 4 (5 + 5 * i + j)) := by rw [m_mst, if_neg h12v]
                exact ih (j + 1) (some qv) _ _ _ (by omega) (by omega) (by rw [e1]; exact vva.symm) hG (by rw [e2]; exact (lv_sub hl [4, 2, 1, 5, 6, 0] rfl))
          | some k0 =>
            have hkj := m_bst_lt M i j k0 hbb
            have h12k := m_bst_v M i j k0 hbb
            obtain ⟨qk, lk, vka, vkk, vk4, vk5, vkr, vkl⟩ := (hs.2.2.2.2.1 i k0 (by omega) (by omega)).2 h12k
            have hLk := hL (5 + 5 * i + k0) (by omega)
            have b13k := hB.1 13 (5 * i + k0) rfl
            have hl : lv_has ls 7 [(0, .ref (na b i)), (1, .ref qk), (2, .int (nI (m_mst M i j))), (3, .ref (na b i + 2)), (4, .int (nI n)), (5, .int (nI j))] := by rw [hbr, hbb] at hl; have e0 : (some k0).bind (rv X (na b i + 2)) = some qk := vka; rw [e0] at hl; exact hl
            refine lv_iload hx hb dX2_leadIfElected_43 (lv_at hl 5 rfl) ?_
            refine lv_iload hx hb dX2_leadIfElected_45 (lv_at hl 4 rfl) ?_
            refine n_ge (tgt := 97) hC dX2_leadIfElected_47 (by decide) (by omega) (by omega) (fun c47 => ?_) (fun c47 => ?_)
            · have c47n := Nat.not_lt.mpr c47
              refine lv_aload_n hx hb dX2_leadIfElected_97 rfl (lv_at hl 1 rfl) ?_
              refine lv_ifnonnull (tgt := 102) hx hb dX2_leadIfElected_98 (by decide) ?_
              refine lv_aload_n hx hb dX2_leadIfElected_102 rfl (lv_at hl 0 rfl) ?_
              refine lv_aload_n hx hb dX2_leadIfElected_103 rfl (lv_at hl 1 rfl) ?_
              refine q_getr hC hG cF0 i0 vkk 6 (by decide) rfl vkr k151 dX2_leadIfElected_104 ?_
              refine q_putr hC hG cF2 i2 (g_kn hs (by omega)) 12 (by decide) rfl k33 (Or.inl rfl) rfl rfl dX2_leadIfElected_107 (fun H locs hG => ?_)
              rw [cM_wR] at hG
              obtain ⟨ec, hs, hgl⟩ := c_log (i := i) P hs hJ (by omega) (by omega) vkl
              rw [ec] at hG
              have hgo := go_tr hgo hgl
              have hlka : rv (wR X (na b i) 12 (some lk)) (na b i) 12 = some lk := up2_self _ _ _ _
              refine lv_aload_n hx hb dX2_leadIfElected_110 rfl (lv_at hl 0 rfl) ?_
              refine lv_iload_n hx hb dX2_leadIfElected_111 rfl (lv_at hl 2 rfl) ?_
              refine lv_aload_n hx hb dX2_leadIfElected_112 rfl (lv_at hl 0 rfl) ?_
              refine q_getr hC hG cF2 i2 (g_kn hs (by omega)) 12 (by decide) rfl hlka k33 dX2_leadIfElected_113 ?_
              refine q_callV (rest := [.int (nI (m_mst M i j)), .ref (na b i)]) (k_X1_size l D cA A hs (vkl.go hgl) hLk.1) hC hG cF1 (vkl.go hgl).1 0 gX2_leadIfElected_X1_size rfl (by decide +kernel) ⟨by decide, by decide⟩ rfl hl.1 rfl (by simp [Value.category]) dX2_leadIfElected_116 ⟨by decide, by decide⟩ (fun v Y H locs hq hG => ?_)
              obtain ⟨rfl, rfl⟩ := hq
              refine n_min hC hl.1 (hts (.methodLink RX2 159 Lib.Math.min.name) (by decide +kernel)) (hts (.static Lib.Math.min.name) (by decide +kernel)) (hts (.initialized "java/lang/Math") (by decide +kernel)) (hts (.code Lib.Math.min.name Lib.Math.min.code 2 (some .int)) (by decide +kernel)) (by decide) (by simp [Value.category]) (by first | exact Nat.zero_le _ | decide | (simp only [rmX2_leadIfElected]; omega)) (by first | exact Nat.zero_le _ | decide | (simp only [rmX2_leadIfElected]; omega)) (by omega) (by omega) dX2_leadIfElected_119 ?_
              have q119 := m_les_le (m_mst M i j) (M 3 (5 + 5 * i + k0))
              refine q_puti hC hG cF2 i2 (g_kn hs (by omega)) 11 (by decide) rfl k62 (Or.inl rfl) rfl (by first | rfl | decide) dX2_leadIfElected_122 (fun H locs hG => ?_)
              rw [cM_n11 (by omega)] at hG
              have hs := Sd_to hs (dq_up (k := 4) (y := i) (v := m_les (m_mst M i j) (M 3 (5 + 5 * i + k0))) (by omega))
              have hJ := J_hav (g := 5 + 5 * i + k0) (i := i) (w := M 4 i) (s := m_les (m_mst M i j) (M 3 (5 + 5 * i + k0))) hJ (by omega) (by omega)
              rw [up2_up2] at hJ hs hG
              have hB := hJ.1
              have hL := hJ.2.1
              have hE := hJ.2.2.1
              refine lv_aload_n hx hb dX2_leadIfElected_125 rfl (lv_at hl 0 rfl) ?_
              refine lv_aload_n hx hb dX2_leadIfElected_126 rfl (lv_at hl 0 rfl) ?_
              refine q_gw (w := M 6 i) hC hG cF2 i2 (g_kn hs (by omega)) 10 (by decide) rfl ((g_n10 (by omega)).trans (by simp [up2, m_cp, m_cpk])) k51 dX2_leadIfElected_127 ?_
              have b1 : M 6 i < 2147483648 := by have := hB.1 6 i rfl; first | exact this | (simp [up2, m_cp, m_cpk] at this; exact this) | omega
              refine q_callV (rest := []) (k_X2_settleIn l D cA A hs hJ (i := i) (by omega) (M 6 i) (by omega)) hC hG cF2 (g_kn hs (by omega)) 1 gX2_leadIfElected_X2_settleIn rfl (by decide +kernel) ⟨by decide, by decide⟩ rfl hl.1 rfl (by simp [Value.category]) dX2_leadIfElected_130 ⟨by decide, by decide⟩ (fun v Y H locs hq hG => ?_)
              obtain ⟨rfl, Xsett, rfl, hs, hgsett⟩ := hq
              have hgo := go_tr hgo hgsett
              have hJ := J_up (J_up (J_up hJ 6 i (v := M 6 i) (by decide) (Or.inl (by omega))) 7 i (v := M 6 i) (by decide) (Or.inl (by omega))) 5 i (v := 0) (by decide) (Or.inl (by decide))
              have hB := hJ.1
              have hL := hJ.2.1
              have hE := hJ.2.2.1
              refine lv_aload_n hx hb dX2_leadIfElected_133 rfl (lv_at hl 0 rfl) ?_
              refine q_getr hC hG cF2 i2 (g_kn hs (by omega)) 8 (by decide) rfl (hs.1.2.2.2.2.2.1 i (by omega)).2.1.2.2.2.2.2 k45 dX2_leadIfElected_134 ?_
              refine n_iconst hC 0 dX2_leadIfElected_137 ?_
              refine q_callS (rest := []) (k_J7_fill_53178 l D cA A (Z := cM b n Xsett (up2 (up2 (up2 (up2 (m_cp M (5 + 5 * i + k0) i) 4 i (m_les (m_mst M i j) (M 3 (5 + 5 * i + k0)))) 6 i (M 6 i)) 7 i (M 6 i)) 5 i 0) P) (a := na b i + 4) (z0 := n) 0 (show kd Xsett (na b i + 4) = 7 ∧ ln Xsett (na b i + 4) = n from ⟨(hs.1.2.2.2.2.2.1 i (by omega)).2.2.2.2.2.2.2.2.1, (hs.1.2.2.2.2.2.1 i (by omega)).2.2.2.2.2.2.2.2.2⟩).1 (show kd Xsett (na b i + 4) = 7 ∧ ln Xsett (na b i + 4) = n from ⟨(hs.1.2.2.2.2.2.1 i (by omega)).2.2.2.2.2.2.2.2.1, (hs.1.2.2.2.2.2.1 i (by omega)).2.2.2.2.2.2.2.2.2⟩).2 (by omega)) hC hG 2 gX2_leadIfElected_J7_fill_53178 rfl (by decide +kernel) ⟨by decide, by decide⟩ rfl hl.1 rfl (by simp [Value.category]) dX2_leadIfElected_138 ⟨by decide, by decide⟩ (fun v Y H locs hq hG => ?_)
              obtain ⟨rfl, rfl⟩ := hq
              rw [cM_fl (by omega) (by omega)] at hG
              have hs := Sd_kz hs i 5
              have hJ := J_kz hJ i 5
              have hB := hJ.1
              have hL := hJ.2.1
              have hE := hJ.2.2.1
              refine lv_aload_n hx hb dX2_leadIfElected_141 rfl (lv_at hl 0 rfl) ?_
              refine n_iconst hC 5 dX2_leadIfElected_142 ?_
              refine n_iconst hC 0 dX2_leadIfElected_143 ?_
              refine q_callV (rest := []) (k_X2_postToAll l D cA A hs hJ (i := i) (by omega) 5 0 (by omega) (by omega)) hC hG cF2 (g_kn hs (by omega)) 2 gX2_leadIfElected_X2_postToAll rfl (by decide +kernel) ⟨by decide, by decide⟩ rfl hl.1 rfl (by simp [Value.category]) dX2_leadIfElected_144 ⟨by decide, by decide⟩ (fun v Y H locs hq hG => ?_)
              obtain ⟨rfl, Xp, rfl, hs, hgp⟩ := hq
              have hgo := go_tr hgo hgp
              have hJ := J_pa (i := i) (k := 5) (v := (m_kz (up2 (up2 (up2 (up2 (m_cp M (5 + 5 * i + k0) i) 4 i (m_les (m_mst M i j) (M 3 (5 + 5 * i + k0)))) 6 i (M 6 i)) 7 i (M 6 i)) 5 i 0) i 5) 6 i) (c := 0) hJ (by omega) (by omega) (hJ.1.1 6 _ rfl) (by omega) n (by omega)
              have hB := hJ.1
              have hL := hJ.2.1
              have hE := hJ.2.2.1
              exact q_vret hC hG hr hlk (by have ej : j = n := (by omega); have hbn : m_bst M i n = some k0 := (by rw [← ej]; exact hbb); have e := tv2_yes (f := f) (by omega) h12o hbn; rw [← ej] at e hs; exact ⟨rfl, _, by rw [← ej, e]; rfl, by rw [← ej, e]; exact hs, hgo⟩) dX2_leadIfElected_147 (h1 := by decide) (h2 := by decide)
            · have c47n := Nat.not_le.mpr c47
              refine lv_aload_n hx hb dX2_leadIfElected_50 rfl (lv_at hl 3 rfl) ?_
              refine lv_iload hx hb dX2_leadIfElected_51 (lv_at hl 5 rfl) ?_
              have hVv := hs.2.2.2.2.1 i j (by omega) (by omega)
              by_cases h12v : M 12 (5 * i + j) = 0
              · refine q_aw (v := .null) hC hG (Or.inl (show kd X (na b i + 2) = 9 ∧ ln X (na b i + 2) = n from ⟨(hs.1.2.2.2.2.2.1 i (by omega)).2.2.2.2.1, (hs.1.2.2.2.2.2.1 i (by omega)).2.2.2.2.2.1⟩).1) (show kd X (na b i + 2) = 9 ∧ ln X (na b i + 2) = n from ⟨(hs.1.2.2.2.2.2.1 i (by omega)).2.2.2.2.1, (hs.1.2.2.2.2.2.1 i (by omega)).2.2.2.2.2.1⟩).2 (by omega) (by omega) (by rw [show rv (cM b n X M P) (na b i + 2) (j) = none from hVv.1 h12v]; rfl) dX2_leadIfElected_53 ?_
                refine lv_astoreN (lv' := [(6, .null), (0, .ref (na b i)), (1, .ref qk), (2, .int (nI (m_mst M i j))), (3, .ref (na b i + 2)), (4, .int (nI n)), (5, .int (nI j))]) hx hb dX2_leadIfElected_54 hl (by decide) rfl (fun ls hl => ?_)
                refine lv_aloadN hx hb dX2_leadIfElected_56 (lv_at hl 0 rfl) ?_
                refine lv_ifnullN (tgt := 91) hx hb dX2_leadIfElected_58 (by decide) ?_
                refine n_iinc (n := 1) (k := 6) (lv' := [(5, .int (nI (j + 1))), (6, .null), (0, .ref (na b i)), (1, .ref qk), (2, .int (nI (m_mst M i j))), (3, .ref (na b i + 2)), (4, .int (nI n))]) hC dX2_leadIfElected_91 hl rfl (by decide) rfl (fun ls hl => ?_)
                refine lv_goto (tgt := 43) hx hb dX2_leadIfElected_94 (by decide) ?_
                have e1 : m_bst M i (j + 1) = some k0 := (bst_s0 h12v).trans hbb
                have e2 : m_mst M i (j + 1) = m_mst M i j := by rw [m_mst, if_pos h12v]
                exact ih (j + 1) (some qk) _ _ _ (by omega) (by omega) (by rw [e1]; exact vka.symm) hG (by rw [e2]; exact (lv_sub hl [2, 3, 4, 5, 6, 0] rfl))
              · obtain ⟨qv, lv, vva, vvk, vv4, vv5, vvr, vvl⟩ := hVv.2 h12v
                refine q_aw (v := .ref qv) hC hG (Or.inl (show kd X (na b i + 2) = 9 ∧ ln X (na b i + 2) = n from ⟨(hs.1.2.2.2.2.2.1 i (by omega)).2.2.2.2.1, (hs.1.2.2.2.2.2.1 i (by omega)).2.2.2.2.2.1⟩).1) (show kd X (na b i + 2) = 9 ∧ ln X (na b i + 2) = n from ⟨(hs.1.2.2.2.2.2.1 i (by omega)).2.2.2.2.1, (hs.1.2.2.2.2.2.1 i (by omega)).2.2.2.2.2.1⟩).2 (by omega) (by omega) (by rw [show rv (cM b n X M P) (na b i + 2) (j) = some qv from vva]; rfl) dX2_leadIfElected_53 ?_
                have hLv := hL (5 + 5 * i + j) (by omega)
                have b13v := hB.1 13 (5 * i + j) rfl
                have b4v := hB.1 4 (5 + 5 * i + j) rfl
                refine lv_astore (lv' := [(6, .ref qv), (0, .ref (na b i)), (1, .ref qk), (2, .int (nI (m_mst M i j))), (3, .ref (na b i + 2)), (4, .int (nI n)), (5, .int (nI j))]) hx hb dX2_leadIfElected_54 hl (by decide) rfl (fun ls hl => ?_)
                refine lv_aload hx hb dX2_leadIfElected_56 (lv_at hl 0 rfl) ?_
                refine lv_ifnull hx hb dX2_leadIfElected_58 ?_
                refine lv_aload_n hx hb dX2_leadIfElected_61 rfl (lv_at hl 2 rfl) ?_
                refine lv_ifnull hx hb dX2_leadIfElected_62 ?_
                refine lv_aload hx hb dX2_leadIfElected_65 (lv_at hl 0 rfl) ?_
                refine lv_aload_n hx hb dX2_leadIfElected_67 rfl (lv_at hl 2 rfl) ?_
                refine q_callS (rest := []) (k_X2_isAhead l D cA A hs hJ (c1 := M 13 (5 * i + j)) (g1 := 5 + 5 * i + j) (c2 := M 13 (5 * i + k0)) (g2 := 5 + 5 * i + k0) ⟨vvk, vv4, vv5, by omega, lv, vvr, vvl⟩ ⟨vkk, vk4, vk5, by omega, lk, vkr, vkl⟩ (by omega) (by omega)) hC hG 2 gX2_leadIfElected_X2_isAhead rfl (by decide +kernel) ⟨by decide, by decide⟩ rfl hl.1 rfl (by simp [Value.category]) dX2_leadIfElected_68 ⟨by decide, by decide⟩ (fun v Y H locs hq hG => ?_)
                obtain ⟨rfl, rfl⟩ := hq
                have q68 := c_ah_le (M 13 (5 * i + j)) (M 3 (5 + 5 * i + j)) (M 13 (5 * i + k0)) (M 3 (5 + 5 * i + k0))
                refine n_ifeq (tgt := 79) hC dX2_leadIfElected_71 (by decide) (by omega) (fun c71 => ?_) (fun c71 => ?_)
                · refine lv_aload_n hx hb dX2_leadIfElected_79 rfl (lv_at hl 2 rfl) ?_
                  refine lv_astore_n (lv' := [(1, .ref qk), (6, .ref qv), (0, .ref (na b i)), (2, .int (nI (m_mst M i j))), (3, .ref (na b i + 2)), (4, .int (nI n)), (5, .int (nI j))]) hx hb dX2_leadIfElected_80 rfl hl (by decide) rfl (fun ls hl => ?_)
                  refine lv_iload_n hx hb dX2_leadIfElected_81 rfl (lv_at hl 3 rfl) ?_
                  refine lv_aload hx hb dX2_leadIfElected_82 (lv_at hl 1 rfl) ?_
                  refine q_gw (w := M 4 (5 + 5 * i + j)) hC hG cF0 i0 vvk 4 (by decide) rfl ((g_iv hs (Or.inl vvk) 4).trans vv4) k152 dX2_leadIfElected_84 ?_
                  refine n_max hC hl.1 (hts (.methodLink RX2 153 Lib.Math.max.name) (by decide +kernel)) (hts (.static Lib.Math.max.name) (by decide +kernel)) (hts (.initialized "java/lang/Math") (by decide +kernel)) (hts (.code Lib.Math.max.name Lib.Math.max.code 2 (some .int)) (by decide +kernel)) (by decide) (by simp [Value.category]) (by first | exact Nat.zero_le _ | decide | (simp only [rmX2_leadIfElected]; omega)) (by first | exact Nat.zero_le _ | decide | (simp only [rmX2_leadIfElected]; omega)) (by omega) (by omega) dX2_leadIfElected_87 ?_
                  have q87 : m_gre (m_mst M i j) (M 4 (5 + 5 * i + j)) < 2147483648 := m_gre_le (by omega) (by omega)
                  refine lv_istore_n (lv' := [(2, .int (nI (m_gre (m_mst M i j) (M 4 (5 + 5 * i + j))))), (1, .ref qk), (6, .ref qv), (0, .ref (na b i)), (3, .ref (na b i + 2)), (4, .int (nI n)), (5, .int (nI j))]) hx hb dX2_leadIfElected_90 rfl hl (by decide) rfl (fun ls hl => ?_)
                  refine n_iinc (n := 1) (k := 6) (lv' := [(5, .int (nI (j + 1))), (2, .int (nI (m_gre (m_mst M i j) (M 4 (5 + 5 * i + j))))), (1, .ref qk), (6, .ref qv), (0, .ref (na b i)), (3, .ref (na b i + 2)), (4, .int (nI n))]) hC dX2_leadIfElected_91 hl rfl (by decide) rfl (fun ls hl => ?_)
                  refine lv_goto (tgt := 43) hx hb dX2_leadIfElected_94 (by decide) ?_
                  have e1 : m_bst M i (j + 1) = some k0 := bst_n h12v hbb c71
                  have e2 : m_mst M i (j + 1) = m_gre (m_mst M i j) (M 4 (5 + 5 * i + j)) := by rw [m_mst, if_neg h12v]
                  exact ih (j + 1) (some qk) _ _ _ (by omega) (by omega) (by rw [e1]; exact vka.symm) hG (by rw [e2]; exact (lv_sub hl [4, 2, 1, 5, 6, 0] rfl))
                · refine lv_aload hx hb dX2_leadIfElected_74 (lv_at hl 0 rfl) ?_
                  refine lv_goto (tgt := 80) hx hb dX2_leadIfElected_76 (by decide) ?_
                  refine lv_astore_n (lv' := [(1, .ref qv), (6, .ref qv), (0, .ref (na b i)), (2, .int (nI (m_mst M i j))), (3, .ref (na b i + 2)), (4, .int (nI n)), (5, .int (nI j))]) hx hb dX2_leadIfElected_80 rfl hl (by decide) rfl (fun ls hl => ?_)
                  refine lv_iload_n hx hb dX2_leadIfElected_81 rfl (lv_at hl 3 rfl) ?_
                  refine lv_aload hx hb dX2_leadIfElected_82 (lv_at hl 1 rfl) ?_
                  refine q_gw (w := M 4 (5 + 5 * i + j)) hC hG cF0 i0 vvk 4 (by decide) rfl ((g_iv hs (Or.inl vvk) 4).trans vv4) k152 dX2_leadIfElected_84 ?_
                  refine n_max hC hl.1 (hts (.methodLink RX2 153 Lib.Math.max.name) (by decide +kernel)) (hts (.static Lib.Math.max.name) (by decide +kernel)) (hts (.initialized "java/lang/Math") (by decide +kernel)) (hts (.code Lib.Math.max.name Lib.Math.max.code 2 (some .int)) (by decide +kernel)) (by decide) (by simp [Value.category]) (by first | exact Nat.zero_le _ | decide | (simp only [rmX2_leadIfElected]; omega)) (by first | exact Nat.zero_le _ | decide | (simp only [rmX2_leadIfElected]; omega)) (by omega) (by omega) dX2_leadIfElected_87 ?_
                  have q87 : m_gre (m_mst M i j) (M 4 (5 + 5 * i + j)) < 2147483648 := m_gre_le (by omega) (by omega)
                  refine lv_istore_n (lv' := [(2, .int (nI (m_gre (m_mst M i j) (M 4 (5 + 5 * i + j))))), (1, .ref qv), (6, .ref qv), (0, .ref (na b i)), (3, .ref (na b i + 2)), (4, .int (nI n)), (5, .int (nI j))]) hx hb dX2_leadIfElected_90 rfl hl (by decide) rfl (fun ls hl => ?_)
                  refine n_iinc (n := 1) (k := 6) (lv' := [(5, .int (nI (j + 1))), (2, .int (nI (m_gre (m_mst M i j) (M 4 (5 + 5 * i + j))))), (1, .ref qv), (6, .ref qv), (0, .ref (na b i)), (3, .ref (na b i + 2)), (4, .int (nI n))]) hC dX2_leadIfElected_91 hl rfl (by decide) rfl (fun ls hl => ?_)
                  refine lv_goto (tgt := 43) hx hb dX2_leadIfElected_94 (by decide) ?_
                  have e1 : m_bst M i (j + 1) = some j := bst_y h12v hbb c71
                  have e2 : m_mst M i (j + 1) = m_gre (m_mst M i j) (M 4 (5 + 5 * i + j)) := by rw [m_mst, if_neg h12v]
                  exact ih (j + 1) (some qv) _ _ _ (by omega) (by omega) (by rw [e1]; exact vva.symm) hG (by rw [e2]; exact (lv_sub hl [4, 2, 1, 5, 6, 0] rfl))
      exact loop (n + 1) 0 none _ _ _ (by omega) (by omega) rfl hG (lv_sub hl [5, 4, 3, 2, 1, 0] rfl)
    · have c23n := Nat.not_lt.mpr c23
      exact q_vret hC hG hr hlk (⟨rfl, X, by rw [tv2_no (by omega)], by rw [tv2_no (by omega)]; exact hs, go_rf b n X⟩) dX2_leadIfElected_26 (h1 := by decide) (h2 := by decide)
