abbrev rmX2_believeFirst : Room := { frames := 1, cells := 0, slots := 0, locals := 30 }
set_option maxHeartbeats 4000000 in
set_option maxRecDepth 100000 in
theorem k_X2_believeFirst (l : Launch) (D : va_G) (cA : Nat → ClassId) (A : Nat → Prop) {b n f : Nat} {X : Mem} {M : MM} {P : Nat → Nat} (hs : Sd b n f X M) (hJ : J M) {i : Nat} (hi : i < n) : mt l D cA A yX2_believeFirst wsX2_believeFirst rmX2_believeFirst [.ref (na b i)] (cM b n X M P) (fun w Y => w = none ∧ ∃ X1, Y = cM b n X1 (c_bel n M i) P ∧ Sd b n f X1 (c_bel n M i) ∧ go b n X X1) := by
  refine q_start (by decide) rfl (Nat.le_of_ble_eq_true rfl) (fun p e s m args below meth c H locs hC hr hlk hnm hG ls hl => ?_)
  have hl : lv_has ls 6 [(0, .ref (na b i))] := hl
  have hx := hC.1.1
  have hb := hC.1.2.1
  have hts := hC.1.2.2.2.2
  have i2 : ∀ w ∈ wsX20, w ∈ wsX2_believeFirst := by decide +kernel
  have i0 : ∀ w ∈ wsX00, w ∈ wsX2_believeFirst := by decide +kernel
  have hnf := g_nf hs
  have hB := hJ.1
  have hL := hJ.2.1
  have hE := hJ.2.2.1
  have hgo := go_rf b n X
  have k33 := hts (.fieldLink RX2 33 "ViewStamps$Node" "log" "LViewStamps$Log;") (by decide +kernel)
  have k42 := hts (.fieldLink RX2 42 "ViewStamps$Node" "tales" "[LViewStamps$Letter;") (by decide +kernel)
  have k62 := hts (.fieldLink RX2 62 "ViewStamps$Node" "sure" "I") (by decide +kernel)
  have k138 := hts (.fieldLink RX2 138 "ViewStamps$Letter" "view" "I") (by decide +kernel)
  have k151 := hts (.fieldLink RX2 151 "ViewStamps$Letter" "log" "LViewStamps$Log;") (by decide +kernel)
  have k152 := hts (.fieldLink RX2 152 "ViewStamps$Letter" "sure" "I") (by decide +kernel)
  refine n_iconst hC 0 dX2_believeFirst_0 ?_
  refine lv_istore_n (lv' := [(1, .int (nI 0)), (0, .ref (na b i))]) hx hb dX2_believeFirst_1 rfl hl (by decide) rfl (fun ls hl => ?_)
  refine lv_aload_n hx hb dX2_believeFirst_2 rfl (lv_at hl 1 rfl) ?_
  refine q_getr hC hG cF2 i2 (g_kn hs (by omega)) 6 (by decide) rfl (hs.1.2.2.2.2.2.1 i (by omega)).2.1.2.2.2.1 k42 dX2_believeFirst_3 ?_
  refine lv_astore_n (lv' := [(2, .ref (na b i + 3)), (1, .int (nI 0)), (0, .ref (na b i))]) hx hb dX2_believeFirst_6 rfl hl (by decide) rfl (fun ls hl => ?_)
  refine lv_aload_n hx hb dX2_believeFirst_7 rfl (lv_at hl 0 rfl) ?_
  refine q_alen hC hG (k := 9) (show kd X (na b i + 3) = 9 ∧ ln X (na b i + 3) = n from ⟨(hs.1.2.2.2.2.2.1 i (by omega)).2.2.2.2.2.2.1, (hs.1.2.2.2.2.2.1 i (by omega)).2.2.2.2.2.2.2.1⟩).1 (by decide) (by decide) (show kd X (na b i + 3) = 9 ∧ ln X (na b i + 3) = n from ⟨(hs.1.2.2.2.2.2.1 i (by omega)).2.2.2.2.2.2.1, (hs.1.2.2.2.2.2.1 i (by omega)).2.2.2.2.2.2.2.1⟩).2 dX2_believeFirst_8 ?_
  refine lv_istore_n (lv' := [(3, .int (nI n)), (2, .ref (na b i + 3)), (1, .int (nI 0)), (0, .ref (na b i))]) hx hb dX2_believeFirst_9 rfl hl (by decide) rfl (fun ls hl => ?_)
  refine n_iconst hC 0 dX2_believeFirst_10 ?_
  refine lv_istore (lv' := [(4, .int (nI 0)), (3, .int (nI n)), (2, .ref (na b i + 3)), (1, .int (nI 0)), (0, .ref (na b i))]) hx hb dX2_believeFirst_11 hl (by decide) rfl (fun ls hl => ?_)
  have loop : ∀ (d : Nat) (j : Nat) (H : Heap) (locs : List Loc) (ls : Array Slot), n - j < d → j ≤ n → gw D cA A (cM b n X M P) s.heap H locs → lv_has ls 6 [(0, .ref (na b i)), (1, .int (nI (m_tmx M i j))), (2, .ref (na b i + 3)), (3, .int (nI n)), (4, .int (nI j))] → W p l e rmX2_believeFirst s m args below meth c H locs 0 0 (MQ below (mQ D cA A (fun w Y => w = none ∧ ∃ X1, Y = cM b n X1 (c_bel n M i) P ∧ Sd b n f X1 (c_bel n M i) ∧ go b n X X1)) args s rmX2_believeFirst.cells rmX2_believeFirst.slots A) (F0 m 13 ls []) := by
    intro d
    induction d with
    | zero => intro j H locs ls hd; exact absurd hd (Nat.not_lt_zero _)
    | succ d ih =>
      intro j H locs ls hd hj hG hl
      have hms := m_tmx_lt hJ.1 i j
      refine lv_iload hx hb dX2_believeFirst_13 (lv_at hl 4 rfl) ?_
      refine lv_iload_n hx hb dX2_believeFirst_15 rfl (lv_at hl 3 rfl) ?_
      refine n_ge (tgt := 46) hC dX2_believeFirst_16 (by decide) (by omega) (by omega) (fun c16 => ?_) (fun c16 => ?_)
      · have c16n := Nat.not_lt.mpr c16
        have ej : j = n := by omega
        rw [ej] at hl hms
        refine lv_aload_n hx hb dX2_believeFirst_46 rfl (lv_at hl 0 rfl) ?_
        refine q_getr hC hG cF2 i2 (g_kn hs (by omega)) 6 (by decide) rfl (hs.1.2.2.2.2.2.1 i (by omega)).2.1.2.2.2.1 k42 dX2_believeFirst_47 ?_
        refine lv_aload_n hx hb dX2_believeFirst_50 rfl (lv_at hl 0 rfl) ?_
        refine lv_iload_n hx hb dX2_believeFirst_51 rfl (lv_at hl 1 rfl) ?_
        refine q_callV (rest := [.ref (na b i + 3)]) (k_X2_firstOf l D cA A hs hJ (i := i) (by omega) (m_tmx M i n) (by omega)) hC hG cF2 (g_kn hs (by omega)) 1 gX2_believeFirst_X2_firstOf rfl (by decide +kernel) ⟨by decide, by decide⟩ rfl hl.1 rfl (by simp [Value.category]) dX2_believeFirst_52 ⟨Nat.le_of_ble_eq_true rfl, Nat.le_of_ble_eq_true rfl⟩ (fun v Y H locs hq hG => ?_)
        obtain ⟨rfl, rfl⟩ := hq
        have r52 : (m_tmx M i n) % n < n := Nat.mod_lt _ (by omega)
        have hVw := hs.2.2.2.2.2.1 i ((m_tmx M i n) % n) (by omega) (by omega)
        by_cases h12w : M 14 (5 * i + ((m_tmx M i n) % n)) = 0
        · refine q_aw (v := .null) hC hG (Or.inl (show kd X (na b i + 3) = 9 ∧ ln X (na b i + 3) = n from ⟨(hs.1.2.2.2.2.2.1 i (by omega)).2.2.2.2.2.2.1, (hs.1.2.2.2.2.2.1 i (by omega)).2.2.2.2.2.2.2.1⟩).1) (show kd X (na b i + 3) = 9 ∧ ln X (na b i + 3) = n from ⟨(hs.1.2.2.2.2.2.1 i (by omega)).2.2.2.2.2.2.1, (hs.1.2.2.2.2.2.1 i (by omega)).2.2.2.2.2.2.2.1⟩).2 (by omega) (by omega) (by rw [show rv (cM b n X M P) (na b i + 3) ((m_tmx M i n) % n) = none from hVw.1 h12w]; rfl) dX2_believeFirst_55 ?_
          refine lv_astore_nN (lv' := [(2, .null), (0, .ref (na b i)), (1, .int (nI (m_tmx M i n))), (3, .int (nI n)), (4, .int (nI n))]) hx hb dX2_believeFirst_56 rfl hl (by decide) rfl (fun ls hl => ?_)
          refine lv_aload_nN hx hb dX2_believeFirst_57 rfl (lv_at hl 0 rfl) ?_
          refine lv_ifnullN (tgt := 90) hx hb dX2_believeFirst_58 (by decide) ?_
          exact q_vret hC hG hr hlk (by have e : c_bel n M i = M := (by rw [c_bel, if_pos h12w]); rw [e]; exact ⟨rfl, X, rfl, hs, hgo⟩) dX2_believeFirst_90
        · obtain ⟨qw, lw, vwa, vwk, vw3, vw4, vwr, vwl⟩ := hVw.2 h12w
          refine q_aw (v := .ref qw) hC hG (Or.inl (show kd X (na b i + 3) = 9 ∧ ln X (na b i + 3) = n from ⟨(hs.1.2.2.2.2.2.1 i (by omega)).2.2.2.2.2.2.1, (hs.1.2.2.2.2.2.1 i (by omega)).2.2.2.2.2.2.2.1⟩).1) (show kd X (na b i + 3) = 9 ∧ ln X (na b i + 3) = n from ⟨(hs.1.2.2.2.2.2.1 i (by omega)).2.2.2.2.2.2.1, (hs.1.2.2.2.2.2.1 i (by omega)).2.2.2.2.2.2.2.1⟩).2 (by omega) (by omega) (by rw [show rv (cM b n X M P) (na b i + 3) ((m_tmx M i n) % n) = some qw from vwa]; rfl) dX2_believeFirst_55 ?_
          have hLw := hL (30 + 5 * i + ((m_tmx M i n) % n)) (by omega)
          have b15w := hB.1 15 (5 * i + ((m_tmx M i n) % n)) rfl
          have b4w := hB.1 4 (30 + 5 * i + ((m_tmx M i n) % n)) rfl
          refine lv_astore_n (lv' := [(2, .ref qw), (0, .ref (na b i)), (1, .int (nI (m_tmx M i n))), (3, .int (nI n)), (4, .int (nI n))]) hx hb dX2_believeFirst_56 rfl hl (by decide) rfl (fun ls hl => ?_)
          refine lv_aload_n hx hb dX2_believeFirst_57 rfl (lv_at hl 0 rfl) ?_
          refine lv_ifnull hx hb dX2_believeFirst_58 ?_
          refine lv_aload_n hx hb dX2_believeFirst_61 rfl (lv_at hl 0 rfl) ?_
          refine q_gw (w := M 15 (5 * i + ((m_tmx M i n) % n))) hC hG cF0 i0 vwk 3 (by decide) rfl ((g_iv hs (Or.inl vwk) 3).trans vw3) k138 dX2_believeFirst_62 ?_
          refine lv_iload_n hx hb dX2_believeFirst_65 rfl (lv_at hl 2 rfl) ?_
          refine n_ne (tgt := 90) hC dX2_believeFirst_66 (by decide) (by omega) (by omega) (fun c66 => ?_) (fun c66 => ?_)
          · exact q_vret hC hG hr hlk (by have e : c_bel n M i = M := (by rw [c_bel, if_neg h12w, if_neg c66]); rw [e]; exact ⟨rfl, X, rfl, hs, hgo⟩) dX2_believeFirst_90
          · refine lv_aload_n hx hb dX2_believeFirst_69 rfl (lv_at hl 1 rfl) ?_
            refine lv_aload_n hx hb dX2_believeFirst_70 rfl (lv_at hl 0 rfl) ?_
            refine q_getr hC hG cF0 i0 vwk 6 (by decide) rfl vwr k151 dX2_believeFirst_71 ?_
            refine q_putr hC hG cF2 i2 (g_kn hs (by omega)) 12 (by decide) rfl k33 (Or.inl rfl) rfl rfl dX2_believeFirst_74 (fun H locs hG => ?_)
            rw [cM_wR] at hG
            obtain ⟨ec, hs, hgl⟩ := c_log (i := i) P hs hJ (by omega) (by omega) vwl
            rw [ec] at hG
            have hgo := go_tr hgo hgl
            have hlwa : rv (wR X (na b i) 12 (some lw)) (na b i) 12 = some lw := up2_self _ _ _ _
            refine lv_aload_n hx hb dX2_believeFirst_77 rfl (lv_at hl 1 rfl) ?_
            refine lv_aload_n hx hb dX2_believeFirst_78 rfl (lv_at hl 0 rfl) ?_
            refine q_gw (w := M 4 (30 + 5 * i + ((m_tmx M i n) % n))) hC hG cF0 i0 vwk 4 (by decide) rfl ((g_iv hs (Or.inl vwk) 4).trans vw4) k152 dX2_believeFirst_79 ?_
            refine q_puti hC hG cF2 i2 (g_kn hs (by omega)) 11 (by decide) rfl k62 (Or.inl rfl) rfl (by first | rfl | decide) dX2_believeFirst_82 (fun H locs hG => ?_)
            rw [cM_n11 (by omega)] at hG
            have hs := Sd_to hs (dq_up (k := 4) (y := i) (v := M 4 (30 + 5 * i + ((m_tmx M i n) % n))) (by omega))
            have hJ := J_hav (g := 30 + 5 * i + ((m_tmx M i n) % n)) (i := i) (w := M 4 i) (s := M 4 (30 + 5 * i + ((m_tmx M i n) % n))) hJ (by omega) (by omega)
            rw [up2_up2] at hJ hs hG
            have hB := hJ.1
            have hL := hJ.2.1
            have hE := hJ.2.2.1
            refine lv_aload_n hx hb dX2_believeFirst_85 rfl (lv_at hl 1 rfl) ?_
            refine lv_iload_n hx hb dX2_believeFirst_86 rfl (lv_at hl 2 rfl) ?_
            refine q_callV (rest := []) (k_X2_settleIn l D cA A hs hJ (i := i) (by omega) (m_tmx M i n) (by omega)) hC hG cF2 (g_kn hs (by omega)) 1 gX2_believeFirst_X2_settleIn rfl (by decide +kernel) ⟨by decide, by decide⟩ rfl hl.1 rfl (by simp [Value.category]) dX2_believeFirst_87 ⟨Nat.le_of_ble_eq_true rfl, Nat.le_of_ble_eq_true rfl⟩ (fun v Y H locs hq hG => ?_)
            obtain ⟨rfl, Xsett, rfl, hs, hgsett⟩ := hq
            have hgo := go_tr hgo hgsett
            have hJ := J_up (J_up (J_up hJ 6 i (v := m_tmx M i n) (by decide) (Or.inl (by omega))) 7 i (v := m_tmx M i n) (by decide) (Or.inl (by omega))) 5 i (v := 0) (by decide) (Or.inl (by decide))
            have hB := hJ.1
            have hL := hJ.2.1
            have hE := hJ.2.2.1
            exact q_vret hC hG hr hlk (by have e : c_bel n M i = up2 (up2 (up2 (up2 (m_cp M (30 + 5 * i + ((m_tmx M i n) % n)) i) 4 i (M 4 (30 + 5 * i + ((m_tmx M i n) % n)))) 6 i (m_tmx M i n)) 7 i (m_tmx M i n)) 5 i 0 := (by rw [up2_id (m_cp_4t _ _ _), c_bel, if_neg h12w, if_pos c66]); rw [e]; exact ⟨rfl, Xsett, rfl, hs, hgo⟩) dX2_believeFirst_90
      · have c16n := Nat.not_le.mpr c16
        refine lv_aload_n hx hb dX2_believeFirst_19 rfl (lv_at hl 2 rfl) ?_
        refine lv_iload hx hb dX2_believeFirst_20 (lv_at hl 4 rfl) ?_
        have hVv := hs.2.2.2.2.2.1 i j (by omega) (by omega)
        by_cases h12v : M 14 (5 * i + j) = 0
        · refine q_aw (v := .null) hC hG (Or.inl (show kd X (na b i + 3) = 9 ∧ ln X (na b i + 3) = n from ⟨(hs.1.2.2.2.2.2.1 i (by omega)).2.2.2.2.2.2.1, (hs.1.2.2.2.2.2.1 i (by omega)).2.2.2.2.2.2.2.1⟩).1) (show kd X (na b i + 3) = 9 ∧ ln X (na b i + 3) = n from ⟨(hs.1.2.2.2.2.2.1 i (by omega)).2.2.2.2.2.2.1, (hs.1.2.2.2.2.2.1 i (by omega)).2.2.2.2.2.2.2.1⟩).2 (by omega) (by omega) (by rw [show rv (cM b n X M P) (na b i + 3) (j) = none from hVv.1 h12v]; rfl) dX2_believeFirst_22 ?_
          refine lv_astoreN (lv' := [(5, .null), (0, .ref (na b i)), (1, .int (nI (m_tmx M i j))), (2, .ref (na b i + 3)), (3, .int (nI n)), (4, .int (nI j))]) hx hb dX2_believeFirst_23 hl (by decide) rfl (fun ls hl => ?_)
          refine lv_aloadN hx hb dX2_believeFirst_25 (lv_at hl 0 rfl) ?_
          refine lv_ifnullN (tgt := 40) hx hb dX2_believeFirst_27 (by decide) ?_
          refine n_iinc (n := 1) (k := 5) (lv' := [(4, .int (nI (j + 1))), (5, .null), (0, .ref (na b i)), (1, .int (nI (m_tmx M i j))), (2, .ref (na b i + 3)), (3, .int (nI n))]) hC dX2_believeFirst_40 hl rfl (by decide) rfl (fun ls hl => ?_)
          refine lv_goto (tgt := 13) hx hb dX2_believeFirst_43 (by decide) ?_
          have e2 := tmx_0 h12v
          exact ih (j + 1) _ _ _ (by omega) (by omega) hG (by rw [e2]; exact (lv_sub hl [2, 3, 4, 5, 0] rfl))
        · obtain ⟨qv, lv, vva, vvk, vv3, vv4, vvr, vvl⟩ := hVv.2 h12v
          refine q_aw (v := .ref qv) hC hG (Or.inl (show kd X (na b i + 3) = 9 ∧ ln X (na b i + 3) = n from ⟨(hs.1.2.2.2.2.2.1 i (by omega)).2.2.2.2.2.2.1, (hs.1.2.2.2.2.2.1 i (by omega)).2.2.2.2.2.2.2.1⟩).1) (show kd X (na b i + 3) = 9 ∧ ln X (na b i + 3) = n from ⟨(hs.1.2.2.2.2.2.1 i (by omega)).2.2.2.2.2.2.1, (hs.1.2.2.2.2.2.1 i (by omega)).2.2.2.2.2.2.2.1⟩).2 (by omega) (by omega) (by rw [show rv (cM b n X M P) (na b i + 3) (j) = some qv from vva]; rfl) dX2_believeFirst_22 ?_
          have hLv := hL (30 + 5 * i + j) (by omega)
          have b15v := hB.1 15 (5 * i + j) rfl
          have b4v := hB.1 4 (30 + 5 * i + j) rfl
          refine lv_astore (lv' := [(5, .ref qv), (0, .ref (na b i)), (1, .int (nI (m_tmx M i j))), (2, .ref (na b i + 3)), (3, .int (nI n)), (4, .int (nI j))]) hx hb dX2_believeFirst_23 hl (by decide) rfl (fun ls hl => ?_)
          refine lv_aload hx hb dX2_believeFirst_25 (lv_at hl 0 rfl) ?_
          refine lv_ifnull hx hb dX2_believeFirst_27 ?_
          refine lv_iload_n hx hb dX2_believeFirst_30 rfl (lv_at hl 2 rfl) ?_
          refine lv_aload hx hb dX2_believeFirst_31 (lv_at hl 0 rfl) ?_
          refine q_gw (w := M 15 (5 * i + j)) hC hG cF0 i0 vvk 3 (by decide) rfl ((g_iv hs (Or.inl vvk) 3).trans vv3) k138 dX2_believeFirst_33 ?_
          refine n_max hC hl.1 (hts (.methodLink RX2 153 Lib.Math.max.name) (by decide +kernel)) (hts (.static Lib.Math.max.name) (by decide +kernel)) (hts (.initialized "java/lang/Math") (by decide +kernel)) (hts (.code Lib.Math.max.name Lib.Math.max.code 2 (some .int)) (by decide +kernel)) (by decide) (by simp [Value.category]) (by first | exact Nat.zero_le _ | decide | (simp only [rmX2_believeFirst]; omega)) (by first | exact Nat.zero_le _ | decide | (simp only [rmX2_believeFirst]; omega)) (by omega) (by omega) dX2_believeFirst_36 ?_
          have q36 : m_gre (m_tmx M i j) (M 15 (5 * i + j)) < 2147483648 := m_gre_le (by omega) (by omega)
          refine lv_istore_n (lv' := [(1, .int (nI (m_gre (m_tmx M i j) (M 15 (5 * i + j))))), (5, .ref qv), (0, .ref (na b i)), (2, .ref (na b i + 3)), (3, .int (nI n)), (4, .int (nI j))]) hx hb dX2_believeFirst_39 rfl hl (by decide) rfl (fun ls hl => ?_)
          refine n_iinc (n := 1) (k := 5) (lv' := [(4, .int (nI (j + 1))), (1, .int (nI (m_gre (m_tmx M i j) (M 15 (5 * i + j))))), (5, .ref qv), (0, .ref (na b i)), (2, .ref (na b i + 3)), (3, .int (nI n))]) hC dX2_believeFirst_40 hl rfl (by decide) rfl (fun ls hl => ?_)
          refine lv_goto (tgt := 13) hx hb dX2_believeFirst_43 (by decide) ?_
          have e2 := tmx_s h12v
          exact ih (j + 1) _ _ _ (by omega) (by omega) hG (by rw [e2]; exact (lv_sub hl [3, 1, 4, 5, 0] rfl))
  exact loop (n + 1) 0 _ _ _ (by omega) (by omega) hG (lv_sub hl [4, 3, 2, 1, 0] rfl)

abbrev rmX2_hearTell : Room := { frames := 2, cells := 0, slots := 0, locals := 55 }
set_option maxHeartbeats 4000000 in
set_option maxRecDepth 100000 in
theorem k_X2_hearTell (l : Launch) (D : va_G) (cA : Nat → ClassId) (A : Nat → Prop) {b n f : Nat} {X : Mem} {M : MM} {P : Nat → Nat} (hs : Sd b n f X M) (hJ : J M) {i : Nat} (hi : i < n) {q l0 : Nat} (hq : Lt b n X M l0 q) (hl0 : l0 < M 17 0) (hkd : M 21 l0 = 7) (h19 : M 19 l0 < n) (hPi : M 5 i = 2 → P i = M 9 i) (hP0 : P i ≤ 1000000) : mt l D cA A yX2_hearTell wsX2_hearTell rmX2_hearTell [.ref (na b i), .ref q] (cM b n X M P) (fun w Y => w = some (.int (nI (m_tal n f M i (M 19 l0) (55 + l0) (M 22 l0) (M 23 l0)).1)) ∧ ∃ X1, Y = cM b n X1 (m_tal n f M i (M 19 l0) (55 + l0) (M 22 l0) (M 23 l0)).2 P ∧ Sd b n f X1 (m_tal n f M i (M 19 l0) (55 + l0) (M 22 l0) (M 23 l0)).2 ∧ go b n X X1) := by
  refine q_start (by decide) rfl (Nat.le_of_ble_eq_true rfl) (fun p e s m args below meth c H locs hC hr hlk hnm hG ls hl => ?_)
  have hl : lv_has ls 2 [(0, .ref (na b i)), (1, .ref q)] := hl
  have hx := hC.1.1
  have hb := hC.1.2.1
  have hts := hC.1.2.2.2.2
  have i2 : ∀ w ∈ wsX20, w ∈ wsX2_hearTell := by decide +kernel
  have i0 : ∀ w ∈ wsX00, w ∈ wsX2_hearTell := by decide +kernel
  have hnf := g_nf hs
  have hB := hJ.1
  have hL := hJ.2.1
  have hE := hJ.2.2.1
  have hgo := go_rf b n X
  have hB0 := hJ.1
  have hJ0 := hJ
  have h17 := hB.2
  obtain ⟨lg, hlgr, hlgY, -⟩ := hq.2
  obtain ⟨hlg4, hlgA⟩ := hlgY (by rw [hkd]; decide)
  have hL5 := hL (55 + l0) (by omega)
  have b23 := hB.1 23 l0 rfl
  have b22 := hB.1 22 l0 rfl
  have k22 := hts (.fieldLink RX2 22 "ViewStamps$Node" "enough" "I") (by decide +kernel)
  have k42 := hts (.fieldLink RX2 42 "ViewStamps$Node" "tales" "[LViewStamps$Letter;") (by decide +kernel)
  have k48 := hts (.fieldLink RX2 48 "ViewStamps$Node" "status" "I") (by decide +kernel)
  have k119 := hts (.fieldLink RX2 119 "ViewStamps$Node" "nonce" "I") (by decide +kernel)
  have k169 := hts (.fieldLink RX2 169 "ViewStamps$Letter" "from" "I") (by decide +kernel)
  have k172 := hts (.fieldLink RX2 172 "ViewStamps$Letter" "count" "I") (by decide +kernel)
  refine lv_aload_n hx hb dX2_hearTell_0 rfl (lv_at hl 0 rfl) ?_
  refine q_gw (w := M 5 i) hC hG cF2 i2 (g_kn hs (by omega)) 9 (by decide) rfl (g_n9 (by omega)) k48 dX2_hearTell_1 ?_
  have b1 : M 5 i < 2147483648 := by have := hB.1 5 i rfl; first | exact this | (simp [up2, m_cp, m_cpk] at this; exact this) | omega
  refine n_iconst hC 2 dX2_hearTell_4 ?_
  refine n_ne (tgt := 19) hC dX2_hearTell_5 (by decide) (by omega) (by omega) (fun c5 => ?_) (fun c5 => ?_)
  · refine n_iconst hC 0 dX2_hearTell_19 ?_
    exact q_zret (v := 0) hC hG hr hlk (by first | decide | omega) (by have e : m_tal n f M i (M 19 l0) (55 + l0) (M 22 l0) (M 23 l0) = (0, M) := (by rw [m_tal, if_neg c5]); rw [e]; exact ⟨rfl, X, rfl, hs, hgo⟩) dX2_hearTell_20
  · refine lv_aload_n hx hb dX2_hearTell_8 rfl (lv_at hl 0 rfl) ?_
    refine q_gw (w := P i) hC hG cF2 i2 (g_kn hs (by omega)) 14 (by decide) rfl (g_n14 (by omega)) k119 dX2_hearTell_9 ?_
    refine lv_aload_n hx hb dX2_hearTell_12 rfl (lv_at hl 1 rfl) ?_
    refine q_gw (w := M 23 l0) hC hG cF0 i0 ((hgo.2.1 q (by rw [hq.1.1]; decide)).1.trans hq.1.1) 5 (by decide) rfl ((g_iv hs (Or.inl ((hgo.2.1 q (by rw [hq.1.1]; decide)).1.trans hq.1.1)) 5).trans (((hgo.2.2.2.2.1 q hq.1.1).2 5 (by decide)).trans hq.1.2.2.2.2.2.1)) k172 dX2_hearTell_13 ?_
    have bl5 := hB0.1 23 l0 rfl
    refine n_eq (tgt := 21) hC dX2_hearTell_16 (by decide) (by omega) (by omega) (fun c16 => ?_) (fun c16 => ?_)
    · refine lv_aload_n hx hb dX2_hearTell_21 rfl (lv_at hl 0 rfl) ?_
      refine q_getr hC hG cF2 i2 (g_kn hs (by omega)) 6 (by decide) rfl (hs.1.2.2.2.2.2.1 i (by omega)).2.1.2.2.2.1 k42 dX2_hearTell_22 ?_
      refine lv_aload_n hx hb dX2_hearTell_25 rfl (lv_at hl 1 rfl) ?_
      refine q_gw (w := M 19 l0) hC hG cF0 i0 ((hgo.2.1 q (by rw [hq.1.1]; decide)).1.trans hq.1.1) 0 (by decide) rfl ((g_iv hs (Or.inl ((hgo.2.1 q (by rw [hq.1.1]; decide)).1.trans hq.1.1)) 0).trans (((hgo.2.2.2.2.1 q hq.1.1).2 0 (by decide)).trans hq.1.2.1)) k169 dX2_hearTell_26 ?_
      have bl0 := hB0.1 19 l0 rfl
      refine lv_aload_n hx hb dX2_hearTell_29 rfl (lv_at hl 1 rfl) ?_
      refine q_aast (n := n) hC hG (Or.inl ⟨(show kd X (na b i + 3) = 9 ∧ ln X (na b i + 3) = n from ⟨(hs.1.2.2.2.2.2.1 i (by omega)).2.2.2.2.2.2.1, (hs.1.2.2.2.2.2.1 i (by omega)).2.2.2.2.2.2.2.1⟩).1, ((hgo.2.1 q (by rw [hq.1.1]; decide)).1.trans hq.1.1)⟩) (show kd X (na b i + 3) = 9 ∧ ln X (na b i + 3) = n from ⟨(hs.1.2.2.2.2.2.1 i (by omega)).2.2.2.2.2.2.1, (hs.1.2.2.2.2.2.1 i (by omega)).2.2.2.2.2.2.2.1⟩).2 (by omega) (by omega) dX2_hearTell_30 (fun H locs hG => ?_)
      rw [cM_wR] at hG
      obtain ⟨ec, hs, hgv, hJ⟩ := c_tale (i := i) (j := M 19 l0) (c := M 23 l0) (g := 55 + l0) (v := M 22 l0) P hs hJ (by omega) (by omega) (by omega) hq.1.2.2.2.2.1 ⟨hq.1.1, hlg4, hq.1.2.2.2.2.2.1, by omega, lg, hlgr, hlgA⟩
      rw [ec] at hG
      have hgo := go_tr hgo hgv
      have hB := hJ.1
      have hL := hJ.2.1
      have hE := hJ.2.2.1
      refine lv_aload_n hx hb dX2_hearTell_31 rfl (lv_at hl 0 rfl) ?_
      refine q_getr hC hG cF2 i2 (g_kn hs (by omega)) 6 (by decide) rfl (hs.1.2.2.2.2.2.1 i (by omega)).2.1.2.2.2.1 k42 dX2_hearTell_32 ?_
      refine q_callS (rest := []) (k_X2_countLetters l D cA A (Z := cM b n (wR X (na b i + 3) (M 19 l0) (some q)) (m_tl M i (M 19 l0) (55 + l0) (M 22 l0)) P) (a := na b i + 3) (z0 := n) (show kd (wR X (na b i + 3) (M 19 l0) (some q)) (na b i + 3) = 9 ∧ ln (wR X (na b i + 3) (M 19 l0) (some q)) (na b i + 3) = n from ⟨(hs.1.2.2.2.2.2.1 i (by omega)).2.2.2.2.2.2.1, (hs.1.2.2.2.2.2.1 i (by omega)).2.2.2.2.2.2.2.1⟩).1 (show kd (wR X (na b i + 3) (M 19 l0) (some q)) (na b i + 3) = 9 ∧ ln (wR X (na b i + 3) (M 19 l0) (some q)) (na b i + 3) = n from ⟨(hs.1.2.2.2.2.2.1 i (by omega)).2.2.2.2.2.2.1, (hs.1.2.2.2.2.2.1 i (by omega)).2.2.2.2.2.2.2.1⟩).2 (by omega)) hC hG 1 gX2_hearTell_X2_countLetters rfl (by decide +kernel) ⟨by decide, by decide⟩ rfl hl.1 rfl (by simp [Value.category]) dX2_hearTell_35 ⟨Nat.le_of_ble_eq_true rfl, Nat.le_of_ble_eq_true rfl⟩ (fun v Y H locs hq hG => ?_)
      obtain ⟨rfl, rfl⟩ := hq
      rw [show c_cl (rv (cM b n (wR X (na b i + 3) (M 19 l0) (some q)) (m_tl M i (M 19 l0) (55 + l0) (M 22 l0)) P) (na b i + 3)) n = m_cnt (m_tl M i (M 19 l0) (55 + l0) (M 22 l0)) 14 (5 * i) n from (show c_cl (rv (wR X (na b i + 3) (M 19 l0) (some q)) (na b i + 3)) n = _ from c_tales hs (by omega))]
      have q35 := m_cnt_le (m_tl M i (M 19 l0) (55 + l0) (M 22 l0)) 14 (5 * i) n
      refine lv_aload_n hx hb dX2_hearTell_38 rfl (lv_at hl 0 rfl) ?_
      refine q_gw (w := f) hC hG cF2 i2 (g_kn hs (by omega)) 2 (by decide) rfl (g_n2 hs (by omega)) k22 dX2_hearTell_39 ?_
      refine n_le (tgt := 49) hC dX2_hearTell_42 (by decide) (by omega) (by omega) (fun c42 => ?_) (fun c42 => ?_)
      · have c42n := Nat.not_lt.mpr c42
        refine n_iconst hC 1 dX2_hearTell_49 ?_
        exact q_zret (v := 1) hC hG hr hlk (by first | decide | omega) (by have e : m_tal n f M i (M 19 l0) (55 + l0) (M 22 l0) (M 23 l0) = (1, m_tl M i (M 19 l0) (55 + l0) (M 22 l0)) := (by rw [m_tal, if_pos c5, if_pos (by have := hPi c5; omega)]; show (1, m_tal2 n f (m_tl M i (M 19 l0) (55 + l0) (M 22 l0)) i) = _; rw [tal2_bel, if_pos (by omega)]); rw [e]; exact ⟨rfl, (wR X (na b i + 3) (M 19 l0) (some q)), rfl, hs, hgo⟩) dX2_hearTell_50
      · have c42n := Nat.not_le.mpr c42
        refine lv_aload_n hx hb dX2_hearTell_45 rfl (lv_at hl 0 rfl) ?_
        refine q_callV (rest := []) (k_X2_believeFirst l D cA A hs hJ (i := i) (by omega) ) hC hG cF2 (g_kn hs (by omega)) 0 gX2_hearTell_X2_believeFirst rfl (by decide +kernel) ⟨by decide, by decide⟩ rfl hl.1 rfl (by simp [Value.category]) dX2_hearTell_46 ⟨Nat.le_of_ble_eq_true rfl, Nat.le_of_ble_eq_true rfl⟩ (fun v Y H locs hq hG => ?_)
        obtain ⟨rfl, Xbeli, rfl, hs, hgbeli⟩ := hq
        have hgo := go_tr hgo hgbeli
        have hJ := J_bel (n := n) hJ (i := i) (by omega) (by omega)
        have hB := hJ.1
        have hL := hJ.2.1
        have hE := hJ.2.2.1
        refine n_iconst hC 1 dX2_hearTell_49 ?_
        exact q_zret (v := 1) hC hG hr hlk (by first | decide | omega) (by have e : m_tal n f M i (M 19 l0) (55 + l0) (M 22 l0) (M 23 l0) = (1, c_bel n (m_tl M i (M 19 l0) (55 + l0) (M 22 l0)) i) := (by rw [m_tal, if_pos c5, if_pos (by have := hPi c5; omega)]; show (1, m_tal2 n f (m_tl M i (M 19 l0) (55 + l0) (M 22 l0)) i) = _; rw [tal2_bel, if_neg (by omega)]); rw [e]; exact ⟨rfl, Xbeli, rfl, hs, hgo⟩) dX2_hearTell_50
    · refine n_iconst hC 0 dX2_hearTell_19 ?_
      exact q_zret (v := 0) hC hG hr hlk (by first | decide | omega) (by have e : m_tal n f M i (M 19 l0) (55 + l0) (M 22 l0) (M 23 l0) = (0, M) := (by rw [m_tal, if_pos c5, if_neg (by have := hPi c5; omega)]); rw [e]; exact ⟨rfl, X, rfl, hs, hgo⟩) dX2_hearTell_20

abbrev rmX2_hear : Room := { frames := 6, cells := 11, slots := 88, locals := 142 }
set_option maxHeartbeats 4000000 in
set_option maxRecDepth 100000 in
theorem k_X2_hear (l : Launch) (D : va_G) (cA : Nat → ClassId) (A : Nat → Prop) {b n f : Nat} {X : Mem} {M : MM} {P : Nat → Nat} (hs : Sd b n f X M) (hJ : J M) {i : Nat} (hi : i < n) {q l0 : Nat} (hq : Lt b n X M l0 q) (hl0 : l0 < M 17 0) (h20 : M 20 l0 = i) (hK : K n f M P) : mt l D cA A yX2_hear wsX2_hear rmX2_hear [.ref (na b i), .ref q] (cM b n X M P) (fun w Y => w = some (.int (nI (m_does n f M l0).1)) ∧ ∃ X1, Y = cM b n X1 (m_does n f M l0).2 P ∧ Sd b n f X1 (m_does n f M l0).2 ∧ go b n X X1) := by
  refine q_start (by decide) rfl (Nat.le_of_ble_eq_true rfl) (fun p e s m args below meth c H locs hC hr hlk hnm hG ls hl => ?_)
  have hl : lv_has ls 2 [(0, .ref (na b i)), (1, .ref q)] := hl
  have hx := hC.1.1
  have hb := hC.1.2.1
  have hts := hC.1.2.2.2.2
  have i2 : ∀ w ∈ wsX20, w ∈ wsX2_hear := by decide +kernel
  have i0 : ∀ w ∈ wsX00, w ∈ wsX2_hear := by decide +kernel
  have hnf := g_nf hs
  have hB := hJ.1
  have hL := hJ.2.1
  have hE := hJ.2.2.1
  have hgo := go_rf b n X
  have hB0 := hJ.1
  have hJ0 := hJ
  have h17 := hB.2
  have kn := hK.1 i hi
  obtain ⟨k1, k2, k3, k4, k5, k6, k7⟩ := hK.2 l0 hl0
  have k51 := hts (.fieldLink RX2 51 "ViewStamps$Node" "view" "I") (by decide +kernel)
  have k125 := hts (.fieldLink RX2 125 "ViewStamps$Letter" "sort" "I") (by decide +kernel)
  have k138 := hts (.fieldLink RX2 138 "ViewStamps$Letter" "view" "I") (by decide +kernel)
  refine lv_aload_n hx hb dX2_hear_0 rfl (lv_at hl 1 rfl) ?_
  refine q_gw (w := M 21 l0) hC hG cF0 i0 ((hgo.2.1 q (by rw [hq.1.1]; decide)).1.trans hq.1.1) 2 (by decide) rfl ((g_iv hs (Or.inl ((hgo.2.1 q (by rw [hq.1.1]; decide)).1.trans hq.1.1)) 2).trans (((hgo.2.2.2.2.1 q hq.1.1).2 2 (by decide)).trans hq.1.2.2.2.1)) k125 dX2_hear_1 ?_
  have bl2 := hB0.1 21 l0 rfl
  refine n_bipush hC 6 (by decide) dX2_hear_4 ?_
  refine n_ne (tgt := 15) hC dX2_hear_6 (by decide) (by omega) (by omega) (fun c6 => ?_) (fun c6 => ?_)
  · refine lv_aload_n hx hb dX2_hear_15 rfl (lv_at hl 1 rfl) ?_
    refine q_gw (w := M 21 l0) hC hG cF0 i0 ((hgo.2.1 q (by rw [hq.1.1]; decide)).1.trans hq.1.1) 2 (by decide) rfl ((g_iv hs (Or.inl ((hgo.2.1 q (by rw [hq.1.1]; decide)).1.trans hq.1.1)) 2).trans (((hgo.2.2.2.2.1 q hq.1.1).2 2 (by decide)).trans hq.1.2.2.2.1)) k125 dX2_hear_16 ?_
    have bl2 := hB0.1 21 l0 rfl
    refine n_bipush hC 7 (by decide) dX2_hear_19 ?_
    refine n_ne (tgt := 30) hC dX2_hear_21 (by decide) (by omega) (by omega) (fun c21 => ?_) (fun c21 => ?_)
    · refine lv_aload_n hx hb dX2_hear_30 rfl (lv_at hl 0 rfl) ?_
      refine q_callV (rest := []) (k_X2_isDown l D cA A hs hJ (i := i) (by omega)) hC hG cF2 (g_kn hs (by omega)) 0 gX2_hear_X2_isDown rfl (by decide +kernel) ⟨by decide, by decide⟩ rfl hl.1 rfl (by simp [Value.category]) dX2_hear_31 ⟨by decide, by decide⟩ (fun v Y H locs hq hG => ?_)
      obtain ⟨rfl, rfl⟩ := hq
      have q31 := c_down_le M i
      refine n_ifne (tgt := 48) hC dX2_hear_34 (by decide) (by omega) (fun c34 => ?_) (fun c34 => ?_)
      · refine n_iconst hC 0 dX2_hear_48 ?_
        exact q_zret (v := 0) hC hG hr hlk (by first | decide | omega) (by have e : m_does n f M l0 = (0, M) := (by rw [m_does, if_neg (by omega), h20, if_pos (down_yes c34)]); rw [e]; exact ⟨rfl, X, rfl, hs, hgo⟩) dX2_hear_49 (h1 := by decide) (h2 := by decide)
      · have d1 := down_no c34 kn.1
        refine lv_aload_n hx hb dX2_hear_37 rfl (lv_at hl 0 rfl) ?_
        refine q_gw (w := M 6 i) hC hG cF2 i2 (g_kn hs (by omega)) 10 (by decide) rfl (g_n10 (by omega)) k51 dX2_hear_38 ?_
        have b1 : M 6 i < 2147483648 := by have := hB.1 6 i rfl; first | exact this | (simp [up2, m_cp, m_cpk] at this; exact this) | omega
        refine lv_aload_n hx hb dX2_hear_41 rfl (lv_at hl 1 rfl) ?_
        refine q_gw (w := M 22 l0) hC hG cF0 i0 ((hgo.2.1 q (by rw [hq.1.1]; decide)).1.trans hq.1.1) 3 (by decide) rfl ((g_iv hs (Or.inl ((hgo.2.1 q (by rw [hq.1.1]; decide)).1.trans hq.1.1)) 3).trans (((hgo.2.2.2.2.1 q hq.1.1).2 3 (by decide)).trans hq.1.2.2.2.2.1)) k138 dX2_hear_42 ?_
        have bl3 := hB0.1 22 l0 rfl
        refine n_le (tgt := 50) hC dX2_hear_45 (by decide) (by omega) (by omega) (fun c45 => ?_) (fun c45 => ?_)
        · have c45n := Nat.not_lt.mpr c45
          refine lv_aload_n hx hb dX2_hear_50 rfl (lv_at hl 1 rfl) ?_
          refine q_gw (w := M 21 l0) hC hG cF0 i0 ((hgo.2.1 q (by rw [hq.1.1]; decide)).1.trans hq.1.1) 2 (by decide) rfl ((g_iv hs (Or.inl ((hgo.2.1 q (by rw [hq.1.1]; decide)).1.trans hq.1.1)) 2).trans (((hgo.2.2.2.2.1 q hq.1.1).2 2 (by decide)).trans hq.1.2.2.2.1)) k125 dX2_hear_51 ?_
          have bl2 := hB0.1 21 l0 rfl
          by_cases c54x1 : M 21 l0 = 1
          · refine lv_tableIn (off := 34) (tgt := 88) hx hb dX2_hear_54 (by rw [c54x1]; decide +kernel) (by rw [c54x1]; decide +kernel) (by rw [c54x1]; decide +kernel) (by decide) ?_
            refine lv_aload_n hx hb dX2_hear_88 rfl (lv_at hl 0 rfl) ?_
            refine lv_aload_n hx hb dX2_hear_89 rfl (lv_at hl 1 rfl) ?_
            refine q_callV (rest := []) (k_X2_hearLog l D cA A hs hJ (i := i) hi hq hl0 (by omega) d1 c45 kn.2.2.2.1) hC hG cF2 (g_kn hs (by omega)) 1 gX2_hear_X2_hearLog rfl (by decide +kernel) ⟨by decide, by decide⟩ rfl hl.1 rfl (by simp [Value.category]) dX2_hear_90 ⟨by decide, by decide⟩ (fun v Y H locs hq0 hG => ?_)
            obtain ⟨rfl, Xh, rfl, hs, hgh⟩ := hq0
            have hgo := go_tr hgo hgh
            have hz1 : (m_pre n M i (55 + l0) (M 22 l0)).1 ≤ 1 := m_pre_le _ _ _ _ _
            exact q_zret (v := ((m_pre n M i (55 + l0) (M 22 l0)).1)) hC hG hr hlk (by first | decide | omega) (by have e : m_does n f M l0 = m_pre n M i (55 + l0) (M 22 l0) := (by rw [m_does, if_neg (by omega), h20, if_neg (by omega), if_pos c45, m_does2, if_pos (by omega), h20]); rw [e]; exact ⟨rfl, Xh, rfl, hs, hgo⟩) dX2_hear_93 (h1 := by decide) (h2 := by decide)
          by_cases c54x2 : M 21 l0 = 2
          · refine lv_tableIn (off := 40) (tgt := 94) hx hb dX2_hear_54 (by rw [c54x2]; decide +kernel) (by rw [c54x2]; decide +kernel) (by rw [c54x2]; decide +kernel) (by decide) ?_
            refine lv_aload_n hx hb dX2_hear_94 rfl (lv_at hl 0 rfl) ?_
            refine lv_aload_n hx hb dX2_hear_95 rfl (lv_at hl 1 rfl) ?_
            refine q_callV (rest := []) (k_X2_hearOk l D cA A hs hJ (i := i) hi hq hl0 k1 (by omega) kn.2.2.2.2.2.2.2.1) hC hG cF2 (g_kn hs (by omega)) 1 gX2_hear_X2_hearOk rfl (by decide +kernel) ⟨by decide, by decide⟩ rfl hl.1 rfl (by simp [Value.category]) dX2_hear_96 ⟨by decide, by decide⟩ (fun v Y H locs hq0 hG => ?_)
            obtain ⟨rfl, Xh, rfl, hs, hgh⟩ := hq0
            have hgo := go_tr hgo hgh
            have hz1 : (m_hea n f M i (M 19 l0) (M 22 l0) (M 23 l0)).1 ≤ 1 := m_hea_le _ _ _ _ _ _ _
            exact q_zret (v := ((m_hea n f M i (M 19 l0) (M 22 l0) (M 23 l0)).1)) hC hG hr hlk (by first | decide | omega) (by have e : m_does n f M l0 = m_hea n f M i (M 19 l0) (M 22 l0) (M 23 l0) := (by rw [m_does, if_neg (by omega), h20, if_neg (by omega), if_pos c45, m_does2, if_neg (by omega), if_pos (by omega), h20]); rw [e]; exact ⟨rfl, Xh, rfl, hs, hgo⟩) dX2_hear_99 (h1 := by decide) (h2 := by decide)
          by_cases c54x3 : M 21 l0 = 3
          · refine lv_tableIn (off := 46) (tgt := 100) hx hb dX2_hear_54 (by rw [c54x3]; decide +kernel) (by rw [c54x3]; decide +kernel) (by rw [c54x3]; decide +kernel) (by decide) ?_
            refine lv_aload_n hx hb dX2_hear_100 rfl (lv_at hl 0 rfl) ?_
            refine lv_aload_n hx hb dX2_hear_101 rfl (lv_at hl 1 rfl) ?_
            refine q_callV (rest := []) (k_X2_hearChange l D cA A hs hJ (i := i) hi hq hl0 k1 c45 kn.2.2.2.2.1 kn.2.2.2.2.2.1 (kn.2.2.2.2.2.2.1 _ k1).1) hC hG cF2 (g_kn hs (by omega)) 1 gX2_hear_X2_hearChange rfl (by decide +kernel) ⟨by decide, by decide⟩ rfl hl.1 rfl (by simp [Value.category]) dX2_hear_102 ⟨by decide, by decide⟩ (fun v Y H locs hq0 hG => ?_)
            obtain ⟨rfl, Xh, rfl, hs, hgh⟩ := hq0
            have hgo := go_tr hgo hgh
            have hz1 : (m_ask n f M i (M 19 l0) (M 22 l0)).1 ≤ 1 := m_ask_le _ _ _ _ _ _
            exact q_zret (v := ((m_ask n f M i (M 19 l0) (M 22 l0)).1)) hC hG hr hlk (by first | decide | omega) (by have e : m_does n f M l0 = m_ask n f M i (M 19 l0) (M 22 l0) := (by rw [m_does, if_neg (by omega), h20, if_neg (by omega), if_pos c45, m_does2, if_neg (by omega), if_neg (by omega), if_pos (by omega), h20]); rw [e]; exact ⟨rfl, Xh, rfl, hs, hgo⟩) dX2_hear_105 (h1 := by decide) (h2 := by decide)
          by_cases c54x4 : M 21 l0 = 4
          · refine lv_tableIn (off := 52) (tgt := 106) hx hb dX2_hear_54 (by rw [c54x4]; decide +kernel) (by rw [c54x4]; decide +kernel) (by rw [c54x4]; decide +kernel) (by decide) ?_
            refine lv_aload_n hx hb dX2_hear_106 rfl (lv_at hl 0 rfl) ?_
            refine lv_aload_n hx hb dX2_hear_107 rfl (lv_at hl 1 rfl) ?_
            refine q_callV (rest := []) (k_X2_hearVote l D cA A hs hJ (i := i) hi hq hl0 c54x4 k1 c45) hC hG cF2 (g_kn hs (by omega)) 1 gX2_hear_X2_hearVote rfl (by decide +kernel) ⟨by decide, by decide⟩ rfl hl.1 rfl (by simp [Value.category]) dX2_hear_108 ⟨by decide, by decide⟩ (fun v Y H locs hq0 hG => ?_)
            obtain ⟨rfl, Xh, rfl, hs, hgh⟩ := hq0
            have hgo := go_tr hgo hgh
            have hz1 : (m_vot n f M i (M 19 l0) (55 + l0) (M 22 l0) (M 23 l0)).1 ≤ 1 := m_vot_le _ _ _ _ _ _ _ _
            exact q_zret (v := ((m_vot n f M i (M 19 l0) (55 + l0) (M 22 l0) (M 23 l0)).1)) hC hG hr hlk (by first | decide | omega) (by have e : m_does n f M l0 = m_vot n f M i (M 19 l0) (55 + l0) (M 22 l0) (M 23 l0) := (by rw [m_does, if_neg (by omega), h20, if_neg (by omega), if_pos c45, m_does2, if_neg (by omega), if_neg (by omega), if_neg (by omega), if_pos (by omega), h20]); rw [e]; exact ⟨rfl, Xh, rfl, hs, hgo⟩) dX2_hear_111 (h1 := by decide) (h2 := by decide)
          by_cases c54x5 : M 21 l0 = 5
          · refine lv_tableIn (off := 34) (tgt := 88) hx hb dX2_hear_54 (by rw [c54x5]; decide +kernel) (by rw [c54x5]; decide +kernel) (by rw [c54x5]; decide +kernel) (by decide) ?_
            refine lv_aload_n hx hb dX2_hear_88 rfl (lv_at hl 0 rfl) ?_
            refine lv_aload_n hx hb dX2_hear_89 rfl (lv_at hl 1 rfl) ?_
            refine q_callV (rest := []) (k_X2_hearLog l D cA A hs hJ (i := i) hi hq hl0 (by omega) d1 c45 kn.2.2.2.1) hC hG cF2 (g_kn hs (by omega)) 1 gX2_hear_X2_hearLog rfl (by decide +kernel) ⟨by decide, by decide⟩ rfl hl.1 rfl (by simp [Value.category]) dX2_hear_90 ⟨by decide, by decide⟩ (fun v Y H locs hq0 hG => ?_)
            obtain ⟨rfl, Xh, rfl, hs, hgh⟩ := hq0
            have hgo := go_tr hgo hgh
            have hz1 : (m_pre n M i (55 + l0) (M 22 l0)).1 ≤ 1 := m_pre_le _ _ _ _ _
            exact q_zret (v := ((m_pre n M i (55 + l0) (M 22 l0)).1)) hC hG hr hlk (by first | decide | omega) (by have e : m_does n f M l0 = m_pre n M i (55 + l0) (M 22 l0) := (by rw [m_does, if_neg (by omega), h20, if_neg (by omega), if_pos c45, m_does2, if_neg (by omega), if_neg (by omega), if_neg (by omega), if_neg (by omega), if_pos (by omega), h20]); rw [e]; exact ⟨rfl, Xh, rfl, hs, hgo⟩) dX2_hear_93 (h1 := by decide) (h2 := by decide)
          refine lv_tableOut (tgt := 112) hx hb dX2_hear_54 (by rw [nI_toInt (by omega)]; omega) (by decide) ?_
          refine n_iconst hC 0 dX2_hear_112 ?_
          exact q_zret (v := 0) hC hG hr hlk (by first | decide | omega) (absurd (show M 21 l0 < 1 ∨ 7 < M 21 l0 by omega) (by omega)) dX2_hear_113 (h1 := by decide) (h2 := by decide)
        · have c45n := Nat.not_le.mpr c45
          refine n_iconst hC 0 dX2_hear_48 ?_
          exact q_zret (v := 0) hC hG hr hlk (by first | decide | omega) (by have e : m_does n f M l0 = (0, M) := (by rw [m_does, if_neg (by omega), h20, if_neg (by omega), if_neg (by omega)]); rw [e]; exact ⟨rfl, X, rfl, hs, hgo⟩) dX2_hear_49 (h1 := by decide) (h2 := by decide)
    · refine lv_aload_n hx hb dX2_hear_24 rfl (lv_at hl 0 rfl) ?_
      refine lv_aload_n hx hb dX2_hear_25 rfl (lv_at hl 1 rfl) ?_
      refine q_callV (rest := []) (k_X2_hearTell l D cA A hs hJ (i := i) hi hq hl0 c21 k1 kn.2.2.2.2.2.2.2.2.1 kn.2.2.2.2.2.2.2.2.2.1) hC hG cF2 (g_kn hs (by omega)) 1 gX2_hear_X2_hearTell rfl (by decide +kernel) ⟨by decide, by decide⟩ rfl hl.1 rfl (by simp [Value.category]) dX2_hear_26 ⟨by decide, by decide⟩ (fun v Y H locs hq0 hG => ?_)
      obtain ⟨rfl, Xh, rfl, hs, hgh⟩ := hq0
      have hgo := go_tr hgo hgh
      have hz1 : (m_tal n f M i (M 19 l0) (55 + l0) (M 22 l0) (M 23 l0)).1 ≤ 1 := m_tal_le _ _ _ _ _ _ _ _
      exact q_zret (v := ((m_tal n f M i (M 19 l0) (55 + l0) (M 22 l0) (M 23 l0)).1)) hC hG hr hlk (by first | decide | omega) (by have e : m_does n f M l0 = m_tal n f M i (M 19 l0) (55 + l0) (M 22 l0) (M 23 l0) := (by rw [m_does, if_pos (by omega), m_does2, if_neg (by omega), if_neg (by omega), if_neg (by omega), if_neg (by omega), if_neg (by omega), if_neg (by omega), h20]); rw [e]; exact ⟨rfl, Xh, rfl, hs, hgo⟩) dX2_hear_29 (h1 := by decide) (h2 := by decide)
  · refine lv_aload_n hx hb dX2_hear_9 rfl (lv_at hl 0 rfl) ?_
    refine lv_aload_n hx hb dX2_hear_10 rfl (lv_at hl 1 rfl) ?_
    refine q_callV (rest := []) (k_X2_hearAsk l D cA A hs hJ (i := i) hi hq hl0 ) hC hG cF2 (g_kn hs (by omega)) 1 gX2_hear_X2_hearAsk rfl (by decide +kernel) ⟨by decide, by decide⟩ rfl hl.1 rfl (by simp [Value.category]) dX2_hear_11 ⟨by decide, by decide⟩ (fun v Y H locs hq0 hG => ?_)
    obtain ⟨rfl, Xh, rfl, hs, hgh⟩ := hq0
    have hgo := go_tr hgo hgh
    have hz1 : (c_ask M i l0).1 ≤ 1 := c_ask_le _ _ _
    exact q_zret (v := ((c_ask M i l0).1)) hC hG hr hlk (by first | decide | omega) (by have e : m_does n f M l0 = c_ask M i l0 := (by rw [m_does, if_pos (by omega), m_does2, if_neg (by omega), if_neg (by omega), if_neg (by omega), if_neg (by omega), if_neg (by omega), if_pos c6, h20]; rfl); rw [e]; exact ⟨rfl, Xh, rfl, hs, hgo⟩) dX2_hear_14 (h1 := by decide) (h2 := by decide)
