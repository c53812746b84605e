abbrev rmX4_node : Room := { frames := 2, cells := 0, slots := 0, locals := 47 }
set_option maxHeartbeats 4000000 in
set_option maxRecDepth 100000 in
theorem k_X4_node (l : Launch) (D : va_G) (cA : Nat → ClassId) (A : Nat → Prop) {b n f : Nat} {X : Mem} {M : MM} {P : Nat → Nat} (hs : Sd b n f X M) (hJ : J M) (nd wh : Int32) : mt l D cA A yX4_node wsX4_node rmX4_node [.ref b, .int nd, .int wh] (cM b n X M P) (fun w Y => w = some (.int (m_node n M nd wh)) ∧ Y = cM b n X M P) := by
  refine q_start (by decide) rfl (Nat.le_of_ble_eq_true rfl) (fun p e s m args below meth c H locs hC hr hlk hnm hG ls hl => ?_)
  have hl : lv_has ls 4 [(0, .ref b), (1, .int nd), (2, .int wh)] := hl
  have hx := hC.1.1
  have hb := hC.1.2.1
  have hts := hC.1.2.2.2.2
  have i4 : ∀ w ∈ wsX40, w ∈ wsX4_node := by decide +kernel
  have hnf := g_nf hs
  have hB := hJ.1
  have hL := hJ.2.1
  have hE := hJ.2.2.1
  refine lv_aload_n hx hb dX4_node_0 rfl (lv_at hl 0 rfl) ?_
  refine lv_iload_n hx hb dX4_node_1 rfl (lv_at hl 1 rfl) ?_
  refine q_callV (rest := []) (k_X4_nodeAt l D cA A hs hJ nd) hC hG cF4 hs.1.1.1 1 gX4_node_X4_nodeAt rfl (by decide +kernel) ⟨by decide, by decide⟩ rfl hl.1 rfl (by simp [Value.category]) dX4_node_2 ⟨Nat.le_of_ble_eq_true rfl, Nat.le_of_ble_eq_true rfl⟩ (fun v Y H locs hq hG => ?_)
  rcases hq with ⟨rfl, ⟨i, hi, rfl, rfl⟩ | ⟨hq0, rfl⟩⟩
  · have t_i : tN (nI i) = i := tN_nI (by omega)
    have y_i := isNode_y hi (by omega)
    refine lv_astore_n (lv' := [(3, .ref (na b i)), (0, .ref b), (1, .int (nI i)), (2, .int wh)]) hx hb dX4_node_5 rfl hl (by decide) rfl (fun ls hl => ?_)
    refine lv_aload_n hx hb dX4_node_6 rfl (lv_at hl 0 rfl) ?_
    refine lv_ifnonnull (tgt := 15) hx hb dX4_node_7 (by decide) ?_
    refine lv_aload_n hx hb dX4_node_15 rfl (lv_at hl 0 rfl) ?_
    refine lv_iload_n hx hb dX4_node_16 rfl (lv_at hl 3 rfl) ?_
    refine q_callV (rest := []) (k_X2_field l D cA A hs hJ (i := i) (by omega) wh) hC hG cF2 (g_kn hs (by omega)) 1 gX4_node_X2_field rfl (by decide +kernel) ⟨by decide, by decide⟩ rfl hl.1 rfl (by simp [Value.category]) dX4_node_17 ⟨Nat.le_of_ble_eq_true rfl, Nat.le_of_ble_eq_true rfl⟩ (fun v Y H locs hq hG => ?_)
    obtain ⟨rfl, rfl⟩ := hq
    exact q_iret (v := (m_nd n M i wh)) hC hG hr hlk (⟨by rw [nd_in hi (by omega)], rfl⟩) dX4_node_20
  · refine lv_astore_nN (lv' := [(3, .null), (0, .ref b), (1, .int nd), (2, .int wh)]) hx hb dX4_node_5 rfl hl (by decide) rfl (fun ls hl => ?_)
    refine lv_aload_nN hx hb dX4_node_6 rfl (lv_at hl 0 rfl) ?_
    refine lv_ifnonnullN hx hb dX4_node_7 ?_
    refine lv_bipush (v := -2) hx hb dX4_node_10 (by decide) ?_
    refine lv_goto (tgt := 20) hx hb dX4_node_12 (by decide) ?_
    exact q_iret (v := (-2)) hC hG hr hlk (⟨by rw [m_node, if_pos hq0], rfl⟩) dX4_node_20

abbrev rmX4_entry : Room := { frames := 2, cells := 0, slots := 0, locals := 42 }
set_option maxHeartbeats 4000000 in
set_option maxRecDepth 100000 in
theorem k_X4_entry (l : Launch) (D : va_G) (cA : Nat → ClassId) (A : Nat → Prop) {b n f : Nat} {X : Mem} {M : MM} {P : Nat → Nat} (hs : Sd b n f X M) (hJ : J M) (nd ix wh : Int32) : mt l D cA A yX4_entry wsX4_entry rmX4_entry [.ref b, .int nd, .int ix, .int wh] (cM b n X M P) (fun w Y => w = some (.int (m_entry n M nd ix wh)) ∧ Y = cM b n X M P) := by
  refine q_start (by decide) rfl (Nat.le_of_ble_eq_true rfl) (fun p e s m args below meth c H locs hC hr hlk hnm hG ls hl => ?_)
  have hl : lv_has ls 5 [(0, .ref b), (1, .int nd), (2, .int ix), (3, .int wh)] := hl
  have hx := hC.1.1
  have hb := hC.1.2.1
  have hts := hC.1.2.2.2.2
  have i4 : ∀ w ∈ wsX40, w ∈ wsX4_entry := by decide +kernel
  have i2 : ∀ w ∈ wsX20, w ∈ wsX4_entry := by decide +kernel
  have hnf := g_nf hs
  have hB := hJ.1
  have hL := hJ.2.1
  have hE := hJ.2.2.1
  have k46 := hts (.fieldLink RX4 46 "ViewStamps$Node" "log" "LViewStamps$Log;") (by decide +kernel)
  refine lv_aload_n hx hb dX4_entry_0 rfl (lv_at hl 0 rfl) ?_
  refine lv_iload_n hx hb dX4_entry_1 rfl (lv_at hl 1 rfl) ?_
  refine q_callV (rest := []) (k_X4_nodeAt l D cA A hs hJ nd) hC hG cF4 hs.1.1.1 1 gX4_entry_X4_nodeAt rfl (by decide +kernel) ⟨by decide, by decide⟩ rfl hl.1 rfl (by simp [Value.category]) dX4_entry_2 ⟨Nat.le_of_ble_eq_true rfl, Nat.le_of_ble_eq_true rfl⟩ (fun v Y H locs hq hG => ?_)
  rcases hq with ⟨rfl, ⟨i, hi, rfl, rfl⟩ | ⟨hq0, rfl⟩⟩
  · have t_i : tN (nI i) = i := tN_nI (by omega)
    have y_i := isNode_y hi (by omega)
    refine lv_astore (lv' := [(4, .ref (na b i)), (0, .ref b), (1, .int (nI i)), (2, .int ix), (3, .int wh)]) hx hb dX4_entry_5 hl (by decide) rfl (fun ls hl => ?_)
    refine lv_aload hx hb dX4_entry_7 (lv_at hl 0 rfl) ?_
    refine lv_ifnonnull (tgt := 17) hx hb dX4_entry_9 (by decide) ?_
    refine lv_aload hx hb dX4_entry_17 (lv_at hl 0 rfl) ?_
    obtain ⟨lgn1, hlgn1a, hlgn1⟩ := hs.2.2.2.1 i (by omega)
    have hLlgn1 := hL i (by omega)
    refine q_getr hC hG cF2 i2 (g_kn hs (by omega)) 12 (by decide) rfl hlgn1a k46 dX4_entry_19 ?_
    refine lv_iload_n hx hb dX4_entry_22 rfl (lv_at hl 3 rfl) ?_
    refine lv_iload_n hx hb dX4_entry_23 rfl (lv_at hl 4 rfl) ?_
    refine q_callV (rest := []) (k_X1_field l D cA A hs hlgn1 hLlgn1.1 ix wh) hC hG cF1 hlgn1.1 2 gX4_entry_X1_field rfl (by decide +kernel) ⟨by decide, by decide⟩ rfl hl.1 rfl (by simp [Value.category]) dX4_entry_24 ⟨Nat.le_of_ble_eq_true rfl, Nat.le_of_ble_eq_true rfl⟩ (fun v Y H locs hq hG => ?_)
    obtain ⟨rfl, rfl⟩ := hq
    exact q_iret (v := (c_fld M i ix wh)) hC hG hr hlk (⟨by rw [c_fld_eq hi (by omega) (by omega)], rfl⟩) dX4_entry_27
  · refine lv_astoreN (lv' := [(4, .null), (0, .ref b), (1, .int nd), (2, .int ix), (3, .int wh)]) hx hb dX4_entry_5 hl (by decide) rfl (fun ls hl => ?_)
    refine lv_aloadN hx hb dX4_entry_7 (lv_at hl 0 rfl) ?_
    refine lv_ifnonnullN hx hb dX4_entry_9 ?_
    refine lv_ldc (v := (-2147483648)) hx hb hC.1.2.2.2.1 (hts (.constant RX4 118 (-2147483648)) (by decide +kernel)) dX4_entry_12 ?_
    refine lv_goto (tgt := 27) hx hb dX4_entry_14 (by decide) ?_
    exact q_iret (v := (-2147483648)) hC hG hr hlk (⟨by rw [m_entry, if_pos hq0], rfl⟩) dX4_entry_27

abbrev rmX4_register : Room := { frames := 4, cells := 0, slots := 0, locals := 87 }
set_option maxHeartbeats 4000000 in
set_option maxRecDepth 100000 in
theorem k_X4_register (l : Launch) (D : va_G) (cA : Nat → ClassId) (A : Nat → Prop) {b n f : Nat} {X : Mem} {M : MM} {P : Nat → Nat} (hs : Sd b n f X M) (hJ : J M) (nd rr : Int32) : mt l D cA A yX4_register wsX4_register rmX4_register [.ref b, .int nd, .int rr] (cM b n X M P) (fun w Y => w = some (.int (m_register n M nd rr)) ∧ ∃ X1, Y = cM b n X1 M P ∧ Sd b n f X1 M ∧ go b n X X1) := by
  refine q_start (by decide) rfl (Nat.le_of_ble_eq_true rfl) (fun p e s m args below meth c H locs hC hr hlk hnm hG ls hl => ?_)
  have hl : lv_has ls 4 [(0, .ref b), (1, .int nd), (2, .int rr)] := hl
  have hx := hC.1.1
  have hb := hC.1.2.1
  have hts := hC.1.2.2.2.2
  have i4 : ∀ w ∈ wsX40, w ∈ wsX4_register := by decide +kernel
  have hnf := g_nf hs
  have hB := hJ.1
  have hL := hJ.2.1
  have hE := hJ.2.2.1
  have hgo := go_rf b n X
  refine lv_aload_n hx hb dX4_register_0 rfl (lv_at hl 0 rfl) ?_
  refine lv_iload_n hx hb dX4_register_1 rfl (lv_at hl 1 rfl) ?_
  refine q_callV (rest := []) (k_X4_nodeAt l D cA A hs hJ nd) hC hG cF4 hs.1.1.1 1 gX4_register_X4_nodeAt rfl (by decide +kernel) ⟨by decide, by decide⟩ rfl hl.1 rfl (by simp [Value.category]) dX4_register_2 ⟨Nat.le_of_ble_eq_true rfl, Nat.le_of_ble_eq_true rfl⟩ (fun v Y H locs hq hG => ?_)
  rcases hq with ⟨rfl, ⟨i, hi, rfl, rfl⟩ | ⟨hq0, rfl⟩⟩
  · have t_i : tN (nI i) = i := tN_nI (by omega)
    have y_i := isNode_y hi (by omega)
    refine lv_astore_n (lv' := [(3, .ref (na b i)), (0, .ref b), (1, .int (nI i)), (2, .int rr)]) hx hb dX4_register_5 rfl hl (by decide) rfl (fun ls hl => ?_)
    refine lv_aload_n hx hb dX4_register_6 rfl (lv_at hl 0 rfl) ?_
    refine lv_ifnull hx hb dX4_register_7 ?_
    refine lv_iload_n hx hb dX4_register_10 rfl (lv_at hl 3 rfl) ?_
    refine lv_if_lt (tgt := 20) hx hb dX4_register_11 (by decide) (fun c11 => ?_) (fun c11 => ?_)
    · refine lv_ldc (v := (-2147483648)) hx hb hC.1.2.2.2.1 (hts (.constant RX4 118 (-2147483648)) (by decide +kernel)) dX4_register_20 ?_
      exact q_iret (v := (-2147483648)) hC hG hr hlk (⟨by rw [m_register, if_neg y_i, if_pos (in_lo c11)], X, rfl, hs, hgo⟩) dX4_register_22
    · refine lv_iload_n hx hb dX4_register_14 rfl (lv_at hl 3 rfl) ?_
      refine n_bipush hC 8 (by decide) dX4_register_15 ?_
      refine lv_icmp_lt (tgt := 23) hx hb dX4_register_17 (by decide) (fun c17 => ?_) (fun c17 => ?_)
      · obtain ⟨x, hx0, rfl⟩ := nI_of c11
        have hx8 : x < 8 := (nI_ltI hx0 (by decide)).mp c17
        refine lv_aload_n hx hb dX4_register_23 rfl (lv_at hl 0 rfl) ?_
        refine q_callV (rest := []) (k_X2_workOutRegisters l D cA A hs hJ (i := i) (by omega)) hC hG cF2 (g_kn hs (by omega)) 0 gX4_register_X2_workOutRegisters rfl (by decide +kernel) ⟨by decide, by decide⟩ rfl hl.1 rfl (by simp [Value.category]) dX4_register_24 ⟨Nat.le_of_ble_eq_true rfl, Nat.le_of_ble_eq_true rfl⟩ (fun v Y H locs hq hG => ?_)
        obtain ⟨rfl, Xr, rfl, hs, hgr, hreg⟩ := hq
        have hgo := go_tr hgo hgr
        refine lv_iload_n hx hb dX4_register_27 rfl (lv_at hl 3 rfl) ?_
        refine q_iw (w := iv Xr (na b i + 1) x) hC hG (show kd Xr (na b i + 1) = 7 ∧ ln Xr (na b i + 1) = 8 from ⟨(hs.1.2.2.2.2.2.1 i (by omega)).2.2.1, (hs.1.2.2.2.2.2.1 i (by omega)).2.2.2.1⟩).1 (show kd Xr (na b i + 1) = 7 ∧ ln Xr (na b i + 1) = 8 from ⟨(hs.1.2.2.2.2.2.1 i (by omega)).2.2.1, (hs.1.2.2.2.2.2.1 i (by omega)).2.2.2.1⟩).2 (by omega) (by omega) (cM_r1 (by omega) _ _ _ _) dX4_register_28 ?_
        exact q_iret (v := (nI (iv Xr (na b i + 1) x))) hC hG hr hlk (⟨by rw [reg_in hi (by omega) hx8, hreg x hx8], Xr, rfl, hs, hgo⟩) dX4_register_29
      · refine lv_ldc (v := (-2147483648)) hx hb hC.1.2.2.2.1 (hts (.constant RX4 118 (-2147483648)) (by decide +kernel)) dX4_register_20 ?_
        exact q_iret (v := (-2147483648)) hC hG hr hlk (⟨by rw [m_register, if_neg y_i, if_pos (in_hi (e0 := 8) (by decide) (by decide) (Int32.not_lt.mp c17))], X, rfl, hs, hgo⟩) dX4_register_22
  · refine lv_astore_nN (lv' := [(3, .null), (0, .ref b), (1, .int nd), (2, .int rr)]) hx hb dX4_register_5 rfl hl (by decide) rfl (fun ls hl => ?_)
    refine lv_aload_nN hx hb dX4_register_6 rfl (lv_at hl 0 rfl) ?_
    refine lv_ifnullN (tgt := 20) hx hb dX4_register_7 (by decide) ?_
    refine lv_ldc (v := (-2147483648)) hx hb hC.1.2.2.2.1 (hts (.constant RX4 118 (-2147483648)) (by decide +kernel)) dX4_register_20 ?_
    exact q_iret (v := (-2147483648)) hC hG hr hlk (⟨by rw [m_register, if_pos hq0], X, rfl, hs, hgo⟩) dX4_register_22

theorem known_no {n : Nat} {M : MM} {i : Nat} {v : Int32} (h : c_leads n M i = 0) : (if M 5 i = 0 then (if m_fst n M i = 0 then -3 else v) else -3) = (-3 : Int32) := by
  unfold c_leads at h
  by_cases h5 : M 5 i = 0
  · rw [if_pos h5] at h ⊢
    by_cases h6 : m_fst n M i = 0
    · rw [if_pos h6]
    · rw [if_neg h6] at h; cases h
  · rw [if_neg h5]

abbrev rmX4_known : Room := { frames := 3, cells := 0, slots := 0, locals := 61 }
set_option maxHeartbeats 4000000 in
set_option maxRecDepth 100000 in
theorem k_X4_known (l : Launch) (D : va_G) (cA : Nat → ClassId) (A : Nat → Prop) {b n f : Nat} {X : Mem} {M : MM} {P : Nat → Nat} (hs : Sd b n f X M) (hJ : J M) (nd ot : Int32) : mt l D cA A yX4_known wsX4_known rmX4_known [.ref b, .int nd, .int ot] (cM b n X M P) (fun w Y => w = some (.int (m_known n M nd ot)) ∧ Y = cM b n X M P) := by
  refine q_start (by decide) rfl (Nat.le_of_ble_eq_true rfl) (fun p e s m args below meth c H locs hC hr hlk hnm hG ls hl => ?_)
  have hl : lv_has ls 4 [(0, .ref b), (1, .int nd), (2, .int ot)] := hl
  have hx := hC.1.1
  have hb := hC.1.2.1
  have hts := hC.1.2.2.2.2
  have i4 : ∀ w ∈ wsX40, w ∈ wsX4_known := by decide +kernel
  have i2 : ∀ w ∈ wsX20, w ∈ wsX4_known := by decide +kernel
  have hnf := g_nf hs
  have hB := hJ.1
  have hL := hJ.2.1
  have hE := hJ.2.2.1
  have k125 := hts (.fieldLink RX4 125 "ViewStamps$Node" "told" "[I") (by decide +kernel)
  refine lv_aload_n hx hb dX4_known_0 rfl (lv_at hl 0 rfl) ?_
  refine lv_iload_n hx hb dX4_known_1 rfl (lv_at hl 1 rfl) ?_
  refine q_callV (rest := []) (k_X4_nodeAt l D cA A hs hJ nd) hC hG cF4 hs.1.1.1 1 gX4_known_X4_nodeAt rfl (by decide +kernel) ⟨by decide, by decide⟩ rfl hl.1 rfl (by simp [Value.category]) dX4_known_2 ⟨Nat.le_of_ble_eq_true rfl, Nat.le_of_ble_eq_true rfl⟩ (fun v Y H locs hq hG => ?_)
  rcases hq with ⟨rfl, ⟨i, hi, rfl, rfl⟩ | ⟨hq0, rfl⟩⟩
  · have t_i : tN (nI i) = i := tN_nI (by omega)
    have y_i := isNode_y hi (by omega)
    refine lv_astore_n (lv' := [(3, .ref (na b i)), (0, .ref b), (1, .int (nI i)), (2, .int ot)]) hx hb dX4_known_5 rfl hl (by decide) rfl (fun ls hl => ?_)
    refine lv_aload_n hx hb dX4_known_6 rfl (lv_at hl 0 rfl) ?_
    refine lv_ifnull hx hb dX4_known_7 ?_
    refine lv_aload_n hx hb dX4_known_10 rfl (lv_at hl 1 rfl) ?_
    refine lv_iload_n hx hb dX4_known_11 rfl (lv_at hl 3 rfl) ?_
    refine q_callV (rest := []) (k_X4_nodeAt l D cA A hs hJ ot) hC hG cF4 hs.1.1.1 1 gX4_known_X4_nodeAt rfl (by decide +kernel) ⟨by decide, by decide⟩ rfl hl.1 rfl (by simp [Value.category]) dX4_known_12 ⟨Nat.le_of_ble_eq_true rfl, Nat.le_of_ble_eq_true rfl⟩ (fun v Y H locs hq hG => ?_)
    rcases hq with ⟨rfl, ⟨o, ho, rfl, rfl⟩ | ⟨hq0, rfl⟩⟩
    · have t_o : tN (nI o) = o := tN_nI (by omega)
      have y_o := isNode_y ho (by omega)
      refine lv_ifnull hx hb dX4_known_15 ?_
      refine lv_iload_n hx hb dX4_known_18 rfl (lv_at hl 2 rfl) ?_
      refine lv_iload_n hx hb dX4_known_19 rfl (lv_at hl 3 rfl) ?_
      refine lv_icmp_ne (tgt := 26) hx hb dX4_known_20 (by decide) (fun c20 => ?_) (fun c20 => ?_)
      · refine lv_aload_n hx hb dX4_known_26 rfl (lv_at hl 0 rfl) ?_
        refine q_callV (rest := []) (k_X2_leads l D cA A hs hJ (i := i) (by omega)) hC hG cF2 (g_kn hs (by omega)) 0 gX4_known_X2_leads rfl (by decide +kernel) ⟨by decide, by decide⟩ rfl hl.1 rfl (by simp [Value.category]) dX4_known_27 ⟨Nat.le_of_ble_eq_true rfl, Nat.le_of_ble_eq_true rfl⟩ (fun v Y H locs hq hG => ?_)
        obtain ⟨rfl, rfl⟩ := hq
        have q27 := c_leads_le n M i
        refine n_ifeq (tgt := 42) hC dX4_known_30 (by decide) (by omega) (fun c30 => ?_) (fun c30 => ?_)
        · refine lv_bipush (v := -3) hx hb dX4_known_42 (by decide) ?_
          exact q_iret (v := (-3)) hC hG hr hlk (⟨by rw [m_known, if_neg y_i, if_neg y_o, if_neg c20, t_i, t_o, known_no c30], rfl⟩) dX4_known_44
        · refine lv_aload_n hx hb dX4_known_33 rfl (lv_at hl 0 rfl) ?_
          refine q_getr hC hG cF2 i2 (g_kn hs (by omega)) 8 (by decide) rfl (hs.1.2.2.2.2.2.1 i (by omega)).2.1.2.2.2.2.2 k125 dX4_known_34 ?_
          refine lv_iload_n hx hb dX4_known_37 rfl (lv_at hl 3 rfl) ?_
          refine q_iw (w := M 10 (5 * i + o)) hC hG (show kd X (na b i + 4) = 7 ∧ ln X (na b i + 4) = n from ⟨(hs.1.2.2.2.2.2.1 i (by omega)).2.2.2.2.2.2.2.2.1, (hs.1.2.2.2.2.2.1 i (by omega)).2.2.2.2.2.2.2.2.2⟩).1 (show kd X (na b i + 4) = 7 ∧ ln X (na b i + 4) = n from ⟨(hs.1.2.2.2.2.2.1 i (by omega)).2.2.2.2.2.2.2.2.1, (hs.1.2.2.2.2.2.1 i (by omega)).2.2.2.2.2.2.2.2.2⟩).2 (by omega) (by omega) (cM_t (by omega) (by omega) _ _ _) dX4_known_38 ?_
          have b1 : M 10 (5 * i + o) < 2147483648 := by have := hB.1 10 (5 * i + o) rfl; first | exact this | (simp [up2, m_cp, m_cpk] at this; exact this) | omega
          refine lv_goto (tgt := 44) hx hb dX4_known_39 (by decide) ?_
          exact q_iret (v := (nI (M 10 (5 * i + o)))) hC hG hr hlk (⟨by rw [m_known, if_neg y_i, if_neg y_o, if_neg c20, t_i, t_o, if_pos (leads_y c30).1, if_neg (leads_y c30).2], rfl⟩) dX4_known_44
      · refine lv_bipush (v := -2) hx hb dX4_known_23 (by decide) ?_
        exact q_iret (v := (-2)) hC hG hr hlk (⟨by rw [m_known, if_neg y_i, if_neg y_o, if_pos c20], rfl⟩) dX4_known_25
    · refine lv_ifnullN (tgt := 23) hx hb dX4_known_15 (by decide) ?_
      refine lv_bipush (v := -2) hx hb dX4_known_23 (by decide) ?_
      exact q_iret (v := (-2)) hC hG hr hlk (⟨by rw [m_known, if_neg y_i, if_pos hq0], rfl⟩) dX4_known_25
  · refine lv_astore_nN (lv' := [(3, .null), (0, .ref b), (1, .int nd), (2, .int ot)]) hx hb dX4_known_5 rfl hl (by decide) rfl (fun ls hl => ?_)
    refine lv_aload_nN hx hb dX4_known_6 rfl (lv_at hl 0 rfl) ?_
    refine lv_ifnullN (tgt := 23) hx hb dX4_known_7 (by decide) ?_
    refine lv_bipush (v := -2) hx hb dX4_known_23 (by decide) ?_
    exact q_iret (v := (-2)) hC hG hr hlk (⟨by rw [m_known, if_pos hq0], rfl⟩) dX4_known_25

abbrev rmX4_letter : Room := { frames := 2, cells := 0, slots := 0, locals := 41 }
set_option maxHeartbeats 4000000 in
set_option maxRecDepth 100000 in
theorem k_X4_letter (l : Launch) (D : va_G) (cA : Nat → ClassId) (A : Nat → Prop) {b n f : Nat} {X : Mem} {M : MM} {P : Nat → Nat} (hs : Sd b n f X M) (hJ : J M) (lt wh : Int32) : mt l D cA A yX4_letter wsX4_letter rmX4_letter [.ref b, .int lt, .int wh] (cM b n X M P) (fun w Y => w = some (.int (m_letter M lt wh)) ∧ Y = cM b n X M P) := by
  refine q_start (by decide) rfl (Nat.le_of_ble_eq_true rfl) (fun p e s m args below meth c H locs hC hr hlk hnm hG ls hl => ?_)
  have hl : lv_has ls 4 [(0, .ref b), (1, .int lt), (2, .int wh)] := hl
  have hx := hC.1.1
  have hb := hC.1.2.1
  have hts := hC.1.2.2.2.2
  have i4 : ∀ w ∈ wsX40, w ∈ wsX4_letter := by decide +kernel
  have hnf := g_nf hs
  have hB := hJ.1
  have hL := hJ.2.1
  have hE := hJ.2.2.1
  have h17 := hB.2
  have k15 := hts (.fieldLink RX4 15 "ViewStamps" "pool" "LViewStamps$Pool;") (by decide +kernel)
  refine lv_aload_n hx hb dX4_letter_0 rfl (lv_at hl 0 rfl) ?_
  refine q_getr hC hG cF4 i4 hs.1.1.1 0 (by decide) rfl hs.1.1.2.1 k15 dX4_letter_1 ?_
  refine lv_iload_n hx hb dX4_letter_4 rfl (lv_at hl 1 rfl) ?_
  refine q_callV (rest := []) (k_X3_at l D cA A hs hJ lt) hC hG cF3 hs.1.2.2.1.1 1 gX4_letter_X3_at rfl (by decide +kernel) ⟨by decide, by decide⟩ rfl hl.1 rfl (by simp [Value.category]) dX4_letter_5 ⟨Nat.le_of_ble_eq_true rfl, Nat.le_of_ble_eq_true rfl⟩ (fun v Y H locs hq hG => ?_)
  rcases hq with ⟨rfl, ⟨j, q, hjL, rfl, hq1, hq2, rfl⟩ | ⟨hq0, rfl⟩⟩
  · refine lv_astore_n (lv' := [(3, .ref q), (0, .ref b), (1, .int (nI j)), (2, .int wh)]) hx hb dX4_letter_8 rfl hl (by decide) rfl (fun ls hl => ?_)
    refine lv_aload_n hx hb dX4_letter_9 rfl (lv_at hl 0 rfl) ?_
    refine lv_ifnonnull (tgt := 18) hx hb dX4_letter_10 (by decide) ?_
    refine lv_aload_n hx hb dX4_letter_18 rfl (lv_at hl 0 rfl) ?_
    refine lv_iload_n hx hb dX4_letter_19 rfl (lv_at hl 3 rfl) ?_
    refine q_callV (rest := []) (k_X0_field l D cA A hs hJ hq2 (by omega) wh) hC hG cF0 hq2.1.1 1 gX4_letter_X0_field rfl (by decide +kernel) ⟨by decide, by decide⟩ rfl hl.1 rfl (by simp [Value.category]) dX4_letter_20 ⟨Nat.le_of_ble_eq_true rfl, Nat.le_of_ble_eq_true rfl⟩ (fun v Y H locs hq hG => ?_)
    obtain ⟨rfl, rfl⟩ := hq
    exact q_iret (v := (m_lf M j wh)) hC hG hr hlk (⟨by rw [m_letter, m_inL_yes h17 hjL, if_neg (by decide), tN_nI (by omega)], rfl⟩) dX4_letter_23
  · refine lv_astore_nN (lv' := [(3, .null), (0, .ref b), (1, .int lt), (2, .int wh)]) hx hb dX4_letter_8 rfl hl (by decide) rfl (fun ls hl => ?_)
    refine lv_aload_nN hx hb dX4_letter_9 rfl (lv_at hl 0 rfl) ?_
    refine lv_ifnonnullN hx hb dX4_letter_10 ?_
    refine lv_bipush (v := -2) hx hb dX4_letter_13 (by decide) ?_
    refine lv_goto (tgt := 23) hx hb dX4_letter_15 (by decide) ?_
    exact q_iret (v := (-2)) hC hG hr hlk (⟨by rw [m_letter, if_pos hq0], rfl⟩) dX4_letter_23

abbrev rmX4_countCutLines : Room := { frames := 0, cells := 0, slots := 0, locals := 0 }
set_option maxHeartbeats 4000000 in
set_option maxRecDepth 100000 in
theorem k_X4_countCutLines (l : Launch) (D : va_G) (cA : Nat → ClassId) (A : Nat → Prop) {b n f : Nat} {X : Mem} {M : MM} {P : Nat → Nat} (hs : Sd b n f X M) (hJ : J M) : mt l D cA A yX4_countCutLines wsX4_countCutLines rmX4_countCutLines [.ref b] (cM b n X M P) (fun w Y => w = some (.int (nI (m_ct n M n))) ∧ Y = cM b n X M P) := by
  refine q_start (by decide) rfl (Nat.le_of_ble_eq_true rfl) (fun p e s m args below meth c H locs hC hr hlk hnm hG ls hl => ?_)
  have hl : lv_has ls 6 [(0, .ref b)] := hl
  have hx := hC.1.1
  have hb := hC.1.2.1
  have hts := hC.1.2.2.2.2
  have i4 : ∀ w ∈ wsX40, w ∈ wsX4_countCutLines := by decide +kernel
  have hnf := g_nf hs
  have hB := hJ.1
  have hL := hJ.2.1
  have hE := hJ.2.2.1
  have hnn := nn_lt hnf
  have k30 := hts (.fieldLink RX4 30 "ViewStamps" "cutLines" "[Z") (by decide +kernel)
  refine n_iconst hC 0 dX4_countCutLines_0 ?_
  refine lv_istore_n (lv' := [(1, .int (nI 0)), (0, .ref b)]) hx hb dX4_countCutLines_1 rfl hl (by decide) rfl (fun ls hl => ?_)
  refine lv_aload_n hx hb dX4_countCutLines_2 rfl (lv_at hl 1 rfl) ?_
  refine q_getr hC hG cF4 i4 hs.1.1.1 2 (by decide) rfl hs.1.1.2.2.2 k30 dX4_countCutLines_3 ?_
  refine lv_astore_n (lv' := [(2, .ref (b + 6 + 5 * n)), (1, .int (nI 0)), (0, .ref b)]) hx hb dX4_countCutLines_6 rfl hl (by decide) rfl (fun ls hl => ?_)
  refine lv_aload_n hx hb dX4_countCutLines_7 rfl (lv_at hl 0 rfl) ?_
  refine q_alen hC hG (k := 8) hs.1.2.2.2.2.1.1 (by decide) (by decide) hs.1.2.2.2.2.1.2 dX4_countCutLines_8 ?_
  refine lv_istore_n (lv' := [(3, .int (nI (n * n))), (2, .ref (b + 6 + 5 * n)), (1, .int (nI 0)), (0, .ref b)]) hx hb dX4_countCutLines_9 rfl hl (by decide) rfl (fun ls hl => ?_)
  refine n_iconst hC 0 dX4_countCutLines_10 ?_
  refine lv_istore (lv' := [(4, .int (nI 0)), (3, .int (nI (n * n))), (2, .ref (b + 6 + 5 * n)), (1, .int (nI 0)), (0, .ref b)]) hx hb dX4_countCutLines_11 hl (by decide) rfl (fun ls hl => ?_)
  have loop : ∀ (d : Nat) (j : Nat) (H : Heap) (locs : List Loc) (ls : Array Slot), n * n - j < d → j ≤ n * n → gw D cA A (cM b n X M P) s.heap H locs → lv_has ls 6 [(0, .ref b), (1, .int (nI (c_cu M n j))), (2, .ref (b + 6 + 5 * n)), (3, .int (nI (n * n))), (4, .int (nI j))] → W p l e rmX4_countCutLines s m args below meth c H locs 0 0 (MQ below (mQ D cA A (fun w Y => w = some (.int (nI (m_ct n M n))) ∧ Y = cM b n X M P)) args s rmX4_countCutLines.cells rmX4_countCutLines.slots A) (F0 m 13 ls []) := by
    intro d
    induction d with
    | zero => intro j H locs ls hd; exact absurd hd (Nat.not_lt_zero _)
    | succ d ih =>
      intro j H locs ls hd hj hG hl
      have hct := c_cu_le M n j
      refine lv_iload hx hb dX4_countCutLines_13 (lv_at hl 4 rfl) ?_
      refine lv_iload_n hx hb dX4_countCutLines_15 rfl (lv_at hl 3 rfl) ?_
      refine n_ge (tgt := 44) hC dX4_countCutLines_16 (by decide) (by omega) (by omega) (fun c16 => ?_) (fun c16 => ?_)
      · have c16n := Nat.not_lt.mpr c16
        refine lv_iload_n hx hb dX4_countCutLines_44 rfl (lv_at hl 1 rfl) ?_
        exact q_iret (v := (nI (c_cu M n j))) hC hG hr hlk (⟨by rw [show j = n * n by omega, c_cu_all M n (Nat.le_refl _)], rfl⟩) dX4_countCutLines_45
      · have c16n := Nat.not_le.mpr c16
        refine lv_aload_n hx hb dX4_countCutLines_19 rfl (lv_at hl 2 rfl) ?_
        refine lv_iload hx hb dX4_countCutLines_20 (lv_at hl 4 rfl) ?_
        refine q_zw (w := cu M n j) hC hG hs.1.2.2.2.2.1.1 hs.1.2.2.2.2.1.2 (by omega) hnn.1 (cut_rd P hs (by omega)) dX4_countCutLines_22 ?_
        have bcu := cu_lt hB n j
        refine lv_istore (lv' := [(5, .int (nI (cu M n j))), (0, .ref b), (1, .int (nI (c_cu M n j))), (2, .ref (b + 6 + 5 * n)), (3, .int (nI (n * n))), (4, .int (nI j))]) hx hb dX4_countCutLines_23 hl (by decide) rfl (fun ls hl => ?_)
        refine lv_iload_n hx hb dX4_countCutLines_25 rfl (lv_at hl 2 rfl) ?_
        refine lv_iload hx hb dX4_countCutLines_26 (lv_at hl 0 rfl) ?_
        refine n_ifeq (tgt := 35) hC dX4_countCutLines_28 (by decide) (by omega) (fun c28 => ?_) (fun c28 => ?_)
        · refine n_iconst hC 0 dX4_countCutLines_35 ?_
          refine n_iadd hC dX4_countCutLines_36 ?_
          refine lv_istore_n (lv' := [(1, .int (nI ((c_cu M n j) + 0))), (5, .int (nI (cu M n j))), (0, .ref b), (2, .ref (b + 6 + 5 * n)), (3, .int (nI (n * n))), (4, .int (nI j))]) hx hb dX4_countCutLines_37 rfl hl (by decide) rfl (fun ls hl => ?_)
          refine n_iinc (n := 1) (k := 5) (lv' := [(4, .int (nI (j + 1))), (1, .int (nI ((c_cu M n j) + 0))), (5, .int (nI (cu M n j))), (0, .ref b), (2, .ref (b + 6 + 5 * n)), (3, .int (nI (n * n)))]) hC dX4_countCutLines_38 hl rfl (by decide) rfl (fun ls hl => ?_)
          refine lv_goto (tgt := 13) hx hb dX4_countCutLines_41 (by decide) ?_
          have e0 : c_cu M n (j + 1) = c_cu M n j + 0 := by rw [c_cu, if_pos c28]
          exact ih (j + 1) _ _ _ (by omega) (by omega) hG (by rw [e0]; exact (lv_sub hl [3, 1, 4, 5, 0] rfl))
        · refine n_iconst hC 1 dX4_countCutLines_31 ?_
          refine lv_goto (tgt := 36) hx hb dX4_countCutLines_32 (by decide) ?_
          refine n_iadd hC dX4_countCutLines_36 ?_
          refine lv_istore_n (lv' := [(1, .int (nI ((c_cu M n j) + 1))), (5, .int (nI (cu M n j))), (0, .ref b), (2, .ref (b + 6 + 5 * n)), (3, .int (nI (n * n))), (4, .int (nI j))]) hx hb dX4_countCutLines_37 rfl hl (by decide) rfl (fun ls hl => ?_)
          refine n_iinc (n := 1) (k := 5) (lv' := [(4, .int (nI (j + 1))), (1, .int (nI ((c_cu M n j) + 1))), (5, .int (nI (cu M n j))), (0, .ref b), (2, .ref (b + 6 + 5 * n)), (3, .int (nI (n * n)))]) hC dX4_countCutLines_38 hl rfl (by decide) rfl (fun ls hl => ?_)
          refine lv_goto (tgt := 13) hx hb dX4_countCutLines_41 (by decide) ?_
          have e0 : c_cu M n (j + 1) = c_cu M n j + 1 := by rw [c_cu, if_neg c28]
          exact ih (j + 1) _ _ _ (by omega) (by omega) hG (by rw [e0]; exact (lv_sub hl [3, 1, 4, 5, 0] rfl))
  exact loop (n * n + 1) 0 _ _ _ (by omega) (by omega) hG (lv_sub hl [4, 3, 2, 1, 0] rfl)

abbrev rmX4_countNormal : Room := { frames := 0, cells := 0, slots := 0, locals := 0 }
set_option maxHeartbeats 4000000 in
set_option maxRecDepth 100000 in
theorem k_X4_countNormal (l : Launch) (D : va_G) (cA : Nat → ClassId) (A : Nat → Prop) {b n f : Nat} {X : Mem} {M : MM} {P : Nat → Nat} (hs : Sd b n f X M) (hJ : J M) : mt l D cA A yX4_countNormal wsX4_countNormal rmX4_countNormal [.ref b] (cM b n X M P) (fun w Y => w = some (.int (nI (m_cz0 M 5 n))) ∧ Y = cM b n X M P) := by
  refine q_start (by decide) rfl (Nat.le_of_ble_eq_true rfl) (fun p e s m args below meth c H locs hC hr hlk hnm hG ls hl => ?_)
  have hl : lv_has ls 6 [(0, .ref b)] := hl
  have hx := hC.1.1
  have hb := hC.1.2.1
  have hts := hC.1.2.2.2.2
  have i4 : ∀ w ∈ wsX40, w ∈ wsX4_countNormal := by decide +kernel
  have i2 : ∀ w ∈ wsX20, w ∈ wsX4_countNormal := by decide +kernel
  have hnf := g_nf hs
  have hB := hJ.1
  have hL := hJ.2.1
  have hE := hJ.2.2.1
  have k23 := hts (.fieldLink RX4 23 "ViewStamps" "nodes" "[LViewStamps$Node;") (by decide +kernel)
  have k101 := hts (.fieldLink RX4 101 "ViewStamps$Node" "status" "I") (by decide +kernel)
  refine n_iconst hC 0 dX4_countNormal_0 ?_
  refine lv_istore_n (lv' := [(1, .int (nI 0)), (0, .ref b)]) hx hb dX4_countNormal_1 rfl hl (by decide) rfl (fun ls hl => ?_)
  refine lv_aload_n hx hb dX4_countNormal_2 rfl (lv_at hl 1 rfl) ?_
  refine q_getr hC hG cF4 i4 hs.1.1.1 1 (by decide) rfl hs.1.1.2.2.1 k23 dX4_countNormal_3 ?_
  refine lv_astore_n (lv' := [(2, .ref (b + 5)), (1, .int (nI 0)), (0, .ref b)]) hx hb dX4_countNormal_6 rfl hl (by decide) rfl (fun ls hl => ?_)
  refine lv_aload_n hx hb dX4_countNormal_7 rfl (lv_at hl 0 rfl) ?_
  refine q_alen hC hG (k := 10) hs.1.2.2.2.1.1 (by decide) (by decide) hs.1.2.2.2.1.2.1 dX4_countNormal_8 ?_
  refine lv_istore_n (lv' := [(3, .int (nI n)), (2, .ref (b + 5)), (1, .int (nI 0)), (0, .ref b)]) hx hb dX4_countNormal_9 rfl hl (by decide) rfl (fun ls hl => ?_)
  refine n_iconst hC 0 dX4_countNormal_10 ?_
  refine lv_istore (lv' := [(4, .int (nI 0)), (3, .int (nI n)), (2, .ref (b + 5)), (1, .int (nI 0)), (0, .ref b)]) hx hb dX4_countNormal_11 hl (by decide) rfl (fun ls hl => ?_)
  have loop : ∀ (d : Nat) (j : Nat) (H : Heap) (locs : List Loc) (ls : Array Slot), n - j < d → j ≤ n → gw D cA A (cM b n X M P) s.heap H locs → lv_has ls 6 [(0, .ref b), (1, .int (nI (m_cz0 M 5 j))), (2, .ref (b + 5)), (3, .int (nI n)), (4, .int (nI j))] → W p l e rmX4_countNormal s m args below meth c H locs 0 0 (MQ below (mQ D cA A (fun w Y => w = some (.int (nI (m_cz0 M 5 n))) ∧ Y = cM b n X M P)) args s rmX4_countNormal.cells rmX4_countNormal.slots A) (F0 m 13 ls []) := by
    intro d
    induction d with
    | zero => intro j H locs ls hd; exact absurd hd (Nat.not_lt_zero _)
    | succ d ih =>
      intro j H locs ls hd hj hG hl
      refine lv_iload hx hb dX4_countNormal_13 (lv_at hl 4 rfl) ?_
      refine lv_iload_n hx hb dX4_countNormal_15 rfl (lv_at hl 3 rfl) ?_
      refine n_ge (tgt := 47) hC dX4_countNormal_16 (by decide) (by omega) (by omega) (fun c16 => ?_) (fun c16 => ?_)
      · have c16n := Nat.not_lt.mpr c16
        refine lv_iload_n hx hb dX4_countNormal_47 rfl (lv_at hl 1 rfl) ?_
        exact q_iret (v := (nI (m_cz0 M 5 j))) hC hG hr hlk (⟨by rw [show j = n by omega], rfl⟩) dX4_countNormal_48
      · have c16n := Nat.not_le.mpr c16
        refine lv_aload_n hx hb dX4_countNormal_19 rfl (lv_at hl 2 rfl) ?_
        refine lv_iload hx hb dX4_countNormal_20 (lv_at hl 4 rfl) ?_
        refine q_aw (v := .ref (na b j)) hC hG (Or.inr hs.1.2.2.2.1.1) hs.1.2.2.2.1.2.1 (by omega) (by omega) (by rw [show rv (cM b n X M P) (b + 5) j = some (na b j) from hs.1.2.2.2.1.2.2 j (by omega)]; rfl) dX4_countNormal_22 ?_
        refine lv_astore (lv' := [(5, .ref (na b j)), (0, .ref b), (1, .int (nI (m_cz0 M 5 j))), (2, .ref (b + 5)), (3, .int (nI n)), (4, .int (nI j))]) hx hb dX4_countNormal_23 hl (by decide) rfl (fun ls hl => ?_)
        refine lv_iload_n hx hb dX4_countNormal_25 rfl (lv_at hl 2 rfl) ?_
        refine lv_aload hx hb dX4_countNormal_26 (lv_at hl 0 rfl) ?_
        refine q_gw (w := M 5 j) hC hG cF2 i2 (g_kn hs (by omega)) 9 (by decide) rfl (g_n9 (by omega)) k101 dX4_countNormal_28 ?_
        have b1 : M 5 j < 2147483648 := by have := hB.1 5 j rfl; first | exact this | (simp [up2, m_cp, m_cpk] at this; exact this) | omega
        refine n_ifne (tgt := 38) hC dX4_countNormal_31 (by decide) (by omega) (fun c31 => ?_) (fun c31 => ?_)
        · refine n_iconst hC 0 dX4_countNormal_38 ?_
          refine n_iadd hC dX4_countNormal_39 ?_
          refine lv_istore_n (lv' := [(1, .int (nI ((m_cz0 M 5 j) + 0))), (5, .ref (na b j)), (0, .ref b), (2, .ref (b + 5)), (3, .int (nI n)), (4, .int (nI j))]) hx hb dX4_countNormal_40 rfl hl (by decide) rfl (fun ls hl => ?_)
          refine n_iinc (n := 1) (k := 5) (lv' := [(4, .int (nI (j + 1))), (1, .int (nI ((m_cz0 M 5 j) + 0))), (5, .ref (na b j)), (0, .ref b), (2, .ref (b + 5)), (3, .int (nI n))]) hC dX4_countNormal_41 hl rfl (by decide) rfl (fun ls hl => ?_)
          refine lv_goto (tgt := 13) hx hb dX4_countNormal_44 (by decide) ?_
          have e0 : m_cz0 M 5 (j + 1) = m_cz0 M 5 j + 0 := by rw [m_cz0, if_neg c31]
          exact ih (j + 1) _ _ _ (by omega) (by omega) hG (by rw [e0]; exact (lv_sub hl [3, 1, 4, 5, 0] rfl))
        · refine n_iconst hC 1 dX4_countNormal_34 ?_
          refine lv_goto (tgt := 39) hx hb dX4_countNormal_35 (by decide) ?_
          refine n_iadd hC dX4_countNormal_39 ?_
          refine lv_istore_n (lv' := [(1, .int (nI ((m_cz0 M 5 j) + 1))), (5, .ref (na b j)), (0, .ref b), (2, .ref (b + 5)), (3, .int (nI n)), (4, .int (nI j))]) hx hb dX4_countNormal_40 rfl hl (by decide) rfl (fun ls hl => ?_)
          refine n_iinc (n := 1) (k := 5) (lv' := [(4, .int (nI (j + 1))), (1, .int (nI ((m_cz0 M 5 j) + 1))), (5, .ref (na b j)), (0, .ref b), (2, .ref (b + 5)), (3, .int (nI n))]) hC dX4_countNormal_41 hl rfl (by decide) rfl (fun ls hl => ?_)
          refine lv_goto (tgt := 13) hx hb dX4_countNormal_44 (by decide) ?_
          have e0 : m_cz0 M 5 (j + 1) = m_cz0 M 5 j + 1 := by rw [m_cz0, if_pos c31]
          exact ih (j + 1) _ _ _ (by omega) (by omega) hG (by rw [e0]; exact (lv_sub hl [3, 1, 4, 5, 0] rfl))
  exact loop (n + 1) 0 _ _ _ (by omega) (by omega) hG (lv_sub hl [4, 3, 2, 1, 0] rfl)

abbrev rmX4_count : Room := { frames := 1, cells := 0, slots := 0, locals := 25 }
set_option maxHeartbeats 4000000 in
set_option maxRecDepth 100000 in
theorem k_X4_count (l : Launch) (D : va_G) (cA : Nat → ClassId) (A : Nat → Prop) {b n f : Nat} {X : Mem} {M : MM} {P : Nat → Nat} (hs : Sd b n f X M) (hJ : J M) (wh : Int32) : mt l D cA A yX4_count wsX4_count rmX4_count [.ref b, .int wh] (cM b n X M P) (fun w Y => w = some (.int (m_count n M wh)) ∧ Y = cM b n X M P) := by
  refine q_start (by decide) rfl (Nat.le_of_ble_eq_true rfl) (fun p e s m args below meth c H locs hC hr hlk hnm hG ls hl => ?_)
  have hl : lv_has ls 2 [(0, .ref b), (1, .int wh)] := hl
  have hx := hC.1.1
  have hb := hC.1.2.1
  have hts := hC.1.2.2.2.2
  have i4 : ∀ w ∈ wsX40, w ∈ wsX4_count := by decide +kernel
  have i3 : ∀ w ∈ wsX30, w ∈ wsX4_count := by decide +kernel
  have hnf := g_nf hs
  have hB := hJ.1
  have hL := hJ.2.1
  have hE := hJ.2.2.1
  have k15 := hts (.fieldLink RX4 15 "ViewStamps" "pool" "LViewStamps$Pool;") (by decide +kernel)
  have k133 := hts (.fieldLink RX4 133 "ViewStamps$Pool" "posted" "I") (by decide +kernel)
  have k139 := hts (.fieldLink RX4 139 "ViewStamps$Pool" "lost" "I") (by decide +kernel)
  refine lv_iload_n hx hb dX4_count_0 rfl (lv_at hl 1 rfl) ?_
  by_cases c1x0 : wh = nI 0
  · refine lv_tableIn (off := 35) (tgt := 36) hx hb dX4_count_1 (by rw [c1x0]; decide +kernel) (by rw [c1x0]; decide +kernel) (by rw [c1x0]; decide +kernel) (by decide) ?_
    refine lv_aload_n hx hb dX4_count_36 rfl (lv_at hl 0 rfl) ?_
    refine q_getr hC hG cF4 i4 hs.1.1.1 0 (by decide) rfl hs.1.1.2.1 k15 dX4_count_37 ?_
    refine q_gw (w := M 17 0) hC hG cF3 i3 hs.1.2.2.1.1 1 (by decide) rfl (cM_p1 b n _ _ _) k133 dX4_count_40 ?_
    have b1 : M 17 0 ≤ 240 := by have := hB.2; first | exact this | (simp [up2, m_cp, m_cpk] at this; exact this) | omega
    exact q_iret (v := (nI (M 17 0))) hC hG hr hlk (⟨by simp only [m_count, if_pos c1x0], rfl⟩) dX4_count_43
  by_cases c1x1 : wh = nI 1
  · refine lv_tableIn (off := 43) (tgt := 44) hx hb dX4_count_1 (by rw [c1x1]; decide +kernel) (by rw [c1x1]; decide +kernel) (by rw [c1x1]; decide +kernel) (by decide) ?_
    refine lv_aload_n hx hb dX4_count_44 rfl (lv_at hl 0 rfl) ?_
    refine q_getr hC hG cF4 i4 hs.1.1.1 0 (by decide) rfl hs.1.1.2.1 k15 dX4_count_45 ?_
    refine q_callV (rest := []) (k_X3_countDropped l D cA A hs hJ) hC hG cF3 hs.1.2.2.1.1 0 gX4_count_X3_countDropped rfl (by decide +kernel) ⟨by decide, by decide⟩ rfl hl.1 rfl (by simp [Value.category]) dX4_count_48 ⟨Nat.le_of_ble_eq_true rfl, Nat.le_of_ble_eq_true rfl⟩ (fun v Y H locs hq hG => ?_)
    obtain ⟨rfl, rfl⟩ := hq
    exact q_iret (v := (nI (m_cnt M 24 0 (M 17 0)))) hC hG hr hlk (⟨by simp only [m_count, if_neg c1x0, if_pos c1x1], rfl⟩) dX4_count_51
  by_cases c1x2 : wh = nI 2
  · refine lv_tableIn (off := 51) (tgt := 52) hx hb dX4_count_1 (by rw [c1x2]; decide +kernel) (by rw [c1x2]; decide +kernel) (by rw [c1x2]; decide +kernel) (by decide) ?_
    refine lv_aload_n hx hb dX4_count_52 rfl (lv_at hl 0 rfl) ?_
    refine q_getr hC hG cF4 i4 hs.1.1.1 0 (by decide) rfl hs.1.1.2.1 k15 dX4_count_53 ?_
    refine q_gw (w := M 18 0) hC hG cF3 i3 hs.1.2.2.1.1 2 (by decide) rfl (cM_p2 b n _ _ _) k139 dX4_count_56 ?_
    exact q_iret (v := (nI (M 18 0))) hC hG hr hlk (⟨by simp only [m_count, if_neg c1x0, if_neg c1x1, if_pos c1x2], rfl⟩) dX4_count_59
  by_cases c1x3 : wh = nI 3
  · refine lv_tableIn (off := 59) (tgt := 60) hx hb dX4_count_1 (by rw [c1x3]; decide +kernel) (by rw [c1x3]; decide +kernel) (by rw [c1x3]; decide +kernel) (by decide) ?_
    refine lv_aload_n hx hb dX4_count_60 rfl (lv_at hl 0 rfl) ?_
    refine q_callV (rest := []) (k_X4_countCutLines l D cA A hs hJ) hC hG cF4 hs.1.1.1 0 gX4_count_X4_countCutLines rfl (by decide +kernel) ⟨by decide, by decide⟩ rfl hl.1 rfl (by simp [Value.category]) dX4_count_61 ⟨Nat.le_of_ble_eq_true rfl, Nat.le_of_ble_eq_true rfl⟩ (fun v Y H locs hq hG => ?_)
    obtain ⟨rfl, rfl⟩ := hq
    exact q_iret (v := (nI (m_ct n M n))) hC hG hr hlk (⟨by simp only [m_count, if_neg c1x0, if_neg c1x1, if_neg c1x2, if_pos c1x3], rfl⟩) dX4_count_64
  by_cases c1x4 : wh = nI 4
  · refine lv_tableIn (off := 64) (tgt := 65) hx hb dX4_count_1 (by rw [c1x4]; decide +kernel) (by rw [c1x4]; decide +kernel) (by rw [c1x4]; decide +kernel) (by decide) ?_
    refine lv_aload_n hx hb dX4_count_65 rfl (lv_at hl 0 rfl) ?_
    refine q_callV (rest := []) (k_X4_countNormal l D cA A hs hJ) hC hG cF4 hs.1.1.1 0 gX4_count_X4_countNormal rfl (by decide +kernel) ⟨by decide, by decide⟩ rfl hl.1 rfl (by simp [Value.category]) dX4_count_66 ⟨Nat.le_of_ble_eq_true rfl, Nat.le_of_ble_eq_true rfl⟩ (fun v Y H locs hq hG => ?_)
    obtain ⟨rfl, rfl⟩ := hq
    exact q_iret (v := (nI (m_cz0 M 5 n))) hC hG hr hlk (⟨by simp only [m_count, if_neg c1x0, if_neg c1x1, if_neg c1x2, if_neg c1x3, if_pos c1x4], rfl⟩) dX4_count_69
  refine lv_tableOut (tgt := 70) hx hb dX4_count_1 (sw_out (hi := 4) (fun v hv => by rcases (show v = 0 ∨ v = 1 ∨ v = 2 ∨ v = 3 ∨ v = 4 by omega) with rfl | rfl | rfl | rfl | rfl <;> assumption)) (by decide) ?_
  refine lv_bipush (v := -2) hx hb dX4_count_70 (by decide) ?_
  exact q_iret (v := (-2)) hC hG hr hlk (⟨by simp only [m_count, if_neg c1x0, if_neg c1x1, if_neg c1x2, if_neg c1x3, if_neg c1x4], rfl⟩) dX4_count_72

abbrev rmX4_unlike : Room := { frames := 3, cells := 0, slots := 0, locals := 66 }
set_option maxHeartbeats 4000000 in
set_option maxRecDepth 100000 in
theorem k_X4_unlike (l : Launch) (D : va_G) (cA : Nat → ClassId) (A : Nat → Prop) {b n f : Nat} {X : Mem} {M : MM} {P : Nat → Nat} (hs : Sd b n f X M) (hJ : J M) : mt l D cA A yX4_unlike wsX4_unlike rmX4_unlike [.ref b] (cM b n X M P) (fun w Y => w = some (.int (m_unlike n M)) ∧ Y = cM b n X M P) := by
  refine q_start (by decide) rfl (Nat.le_of_ble_eq_true rfl) (fun p e s m args below meth c H locs hC hr hlk hnm hG ls hl => ?_)
  have hl : lv_has ls 4 [(0, .ref b)] := hl
  have hx := hC.1.1
  have hb := hC.1.2.1
  have hts := hC.1.2.2.2.2
  have i4 : ∀ w ∈ wsX40, w ∈ wsX4_unlike := by decide +kernel
  have i2 : ∀ w ∈ wsX20, w ∈ wsX4_unlike := by decide +kernel
  have hnf := g_nf hs
  have hB := hJ.1
  have hL := hJ.2.1
  have hE := hJ.2.2.1
  have k23 := hts (.fieldLink RX4 23 "ViewStamps" "nodes" "[LViewStamps$Node;") (by decide +kernel)
  have k46 := hts (.fieldLink RX4 46 "ViewStamps$Node" "log" "LViewStamps$Log;") (by decide +kernel)
  have k148 := hts (.fieldLink RX4 148 "ViewStamps$Node" "sure" "I") (by decide +kernel)
  refine n_iconst hC 0 dX4_unlike_0 ?_
  refine lv_istore_n (lv' := [(1, .int (nI 0)), (0, .ref b)]) hx hb dX4_unlike_1 rfl hl (by decide) rfl (fun ls hl => ?_)
  have loop1 : ∀ (d : Nat) (i : Nat) (H : Heap) (locs : List Loc) (ls : Array Slot), n - i < d → i ≤ n → s_i (m_U M) n (n - i) = m_unlike n M → gw D cA A (cM b n X M P) s.heap H locs → lv_has ls 4 [(0, .ref b), (1, .int (nI i))] → W p l e rmX4_unlike s m args below meth c H locs 0 0 (MQ below (mQ D cA A (fun w Y => w = some (.int (m_unlike n M)) ∧ Y = cM b n X M P)) args s rmX4_unlike.cells rmX4_unlike.slots A) (F0 m 2 ls []) := by
    intro d
    induction d with
    | zero => intro i H locs ls hd; exact absurd hd (Nat.not_lt_zero _)
    | succ d ih =>
      intro i H locs ls hd hi hT hG hl
      refine lv_iload_n hx hb dX4_unlike_2 rfl (lv_at hl 1 rfl) ?_
      refine lv_aload_n hx hb dX4_unlike_3 rfl (lv_at hl 0 rfl) ?_
      refine q_getr hC hG cF4 i4 hs.1.1.1 1 (by decide) rfl hs.1.1.2.2.1 k23 dX4_unlike_4 ?_
      refine q_alen hC hG (k := 10) hs.1.2.2.2.1.1 (by decide) (by decide) hs.1.2.2.2.1.2.1 dX4_unlike_7 ?_
      refine n_ge (tgt := 90) hC dX4_unlike_8 (by decide) (by omega) (by omega) (fun c8 => ?_) (fun c8 => ?_)
      · have c8n := Nat.not_lt.mpr c8
        refine lv_iconst (v := -1) hx hb dX4_unlike_90 (by decide) ?_
        exact q_iret (v := (-1)) hC hG hr hlk (⟨by rw [← hT, show n - i = 0 by omega]; rfl, rfl⟩) dX4_unlike_91
      · have c8n := Nat.not_le.mpr c8
        refine lv_iload_n hx hb dX4_unlike_11 rfl (lv_at hl 1 rfl) ?_
        refine n_iconst hC 1 dX4_unlike_12 ?_
        refine n_iadd hC dX4_unlike_13 ?_
        refine lv_istore_n (lv' := [(2, .int (nI (i + 1))), (0, .ref b), (1, .int (nI i))]) hx hb dX4_unlike_14 rfl hl (by decide) rfl (fun ls hl => ?_)
        have hin : i < n := by omega
        rw [s_i_step hin] at hT
        have ih1 := ih
        have loop2 : ∀ (d : Nat) (j : Nat) (H : Heap) (locs : List Loc) (ls : Array Slot), n - j < d → j ≤ n → i < j → (match s_j (m_U M i) n (n - j) with | some j => nI (10 * i + j) | none => s_i (m_U M) n (n - (i + 1))) = m_unlike n M → gw D cA A (cM b n X M P) s.heap H locs → lv_has ls 4 [(0, .ref b), (1, .int (nI i)), (2, .int (nI j))] → W p l e rmX4_unlike s m args below meth c H locs 0 0 (MQ below (mQ D cA A (fun w Y => w = some (.int (m_unlike n M)) ∧ Y = cM b n X M P)) args s rmX4_unlike.cells rmX4_unlike.slots A) (F0 m 15 ls []) := by
          intro d
          induction d with
          | zero => intro j H locs ls hd; exact absurd hd (Nat.not_lt_zero _)
          | succ d ih =>
            intro j H locs ls hd hj hij hT2 hG hl
            refine lv_iload_n hx hb dX4_unlike_15 rfl (lv_at hl 2 rfl) ?_
            refine lv_aload_n hx hb dX4_unlike_16 rfl (lv_at hl 0 rfl) ?_
            refine q_getr hC hG cF4 i4 hs.1.1.1 1 (by decide) rfl hs.1.1.2.2.1 k23 dX4_unlike_17 ?_
            refine q_alen hC hG (k := 10) hs.1.2.2.2.1.1 (by decide) (by decide) hs.1.2.2.2.1.2.1 dX4_unlike_20 ?_
            refine n_ge (tgt := 84) hC dX4_unlike_21 (by decide) (by omega) (by omega) (fun c21 => ?_) (fun c21 => ?_)
            · have c21n := Nat.not_lt.mpr c21
              refine n_iinc (n := 1) (k := 1) (lv' := [(1, .int (nI (i + 1))), (0, .ref b), (2, .int (nI j))]) hC dX4_unlike_84 hl rfl (by decide) rfl (fun ls hl => ?_)
              refine lv_goto (tgt := 2) hx hb dX4_unlike_87 (by decide) ?_
              exact ih1 (i + 1) _ _ _ (by omega) (by omega) (by rw [← hT2, show n - j = 0 by omega]; rfl) hG (lv_sub hl [1, 0] rfl)
            · have c21n := Nat.not_le.mpr c21
              have hjn : j < n := by omega
              have hLi := hL i (by omega)
              have hLj := hL j (by omega)
              rw [s_j_step hjn] at hT2
              refine lv_aload_n hx hb dX4_unlike_24 rfl (lv_at hl 0 rfl) ?_
              refine q_getr hC hG cF4 i4 hs.1.1.1 1 (by decide) rfl hs.1.1.2.2.1 k23 dX4_unlike_25 ?_
              refine lv_iload_n hx hb dX4_unlike_28 rfl (lv_at hl 1 rfl) ?_
              refine q_aw (v := .ref (na b i)) hC hG (Or.inr hs.1.2.2.2.1.1) hs.1.2.2.2.1.2.1 (by omega) (by omega) (by rw [show rv (cM b n X M P) (b + 5) i = some (na b i) from hs.1.2.2.2.1.2.2 i (by omega)]; rfl) dX4_unlike_29 ?_
              refine q_gw (w := M 4 i) hC hG cF2 i2 (g_kn hs (by omega)) 11 (by decide) rfl (g_n11 (by omega)) k148 dX4_unlike_30 ?_
              have b1 : M 4 i < 2147483648 := by have := hB.1 4 i rfl; first | exact this | (simp [up2, m_cp, m_cpk] at this; exact this) | omega
              refine lv_aload_n hx hb dX4_unlike_33 rfl (lv_at hl 0 rfl) ?_
              refine q_getr hC hG cF4 i4 hs.1.1.1 1 (by decide) rfl hs.1.1.2.2.1 k23 dX4_unlike_34 ?_
              refine lv_iload_n hx hb dX4_unlike_37 rfl (lv_at hl 2 rfl) ?_
              refine q_aw (v := .ref (na b j)) hC hG (Or.inr hs.1.2.2.2.1.1) hs.1.2.2.2.1.2.1 (by omega) (by omega) (by rw [show rv (cM b n X M P) (b + 5) j = some (na b j) from hs.1.2.2.2.1.2.2 j (by omega)]; rfl) dX4_unlike_38 ?_
              refine q_gw (w := M 4 j) hC hG cF2 i2 (g_kn hs (by omega)) 11 (by decide) rfl (g_n11 (by omega)) k148 dX4_unlike_39 ?_
              have b2 : M 4 j < 2147483648 := by have := hB.1 4 j rfl; first | exact this | (simp [up2, m_cp, m_cpk] at this; exact this) | omega
              refine n_min hC hl.1 (hts (.methodLink RX4 151 Lib.Math.min.name) (by decide +kernel)) (hts (.static Lib.Math.min.name) (by decide +kernel)) (hts (.initialized "java/lang/Math") (by decide +kernel)) (hts (.code Lib.Math.min.name Lib.Math.min.code 2 (some .int)) (by decide +kernel)) (by decide) (by simp [Value.category]) (by first | exact Nat.zero_le _ | decide | (simp only [rmX4_unlike]; omega)) (by first | exact Nat.zero_le _ | decide | (simp only [rmX4_unlike]; omega)) (by omega) (by omega) dX4_unlike_42 ?_
              have q42 := m_les_le (M 4 i) (M 4 j)
              refine lv_istore_n (lv' := [(3, .int (nI (m_les (M 4 i) (M 4 j)))), (0, .ref b), (1, .int (nI i)), (2, .int (nI j))]) hx hb dX4_unlike_45 rfl hl (by decide) rfl (fun ls hl => ?_)
              refine lv_aload_n hx hb dX4_unlike_46 rfl (lv_at hl 1 rfl) ?_
              refine q_getr hC hG cF4 i4 hs.1.1.1 1 (by decide) rfl hs.1.1.2.2.1 k23 dX4_unlike_47 ?_
              refine lv_iload_n hx hb dX4_unlike_50 rfl (lv_at hl 2 rfl) ?_
              refine q_aw (v := .ref (na b i)) hC hG (Or.inr hs.1.2.2.2.1.1) hs.1.2.2.2.1.2.1 (by omega) (by omega) (by rw [show rv (cM b n X M P) (b + 5) i = some (na b i) from hs.1.2.2.2.1.2.2 i (by omega)]; rfl) dX4_unlike_51 ?_
              obtain ⟨lgn3, hlgn3a, hlgn3⟩ := hs.2.2.2.1 i (by omega)
              have hLlgn3 := hL i (by omega)
              refine q_getr hC hG cF2 i2 (g_kn hs (by omega)) 12 (by decide) rfl hlgn3a k46 dX4_unlike_52 ?_
              refine lv_aload_n hx hb dX4_unlike_55 rfl (lv_at hl 1 rfl) ?_
              refine q_getr hC hG cF4 i4 hs.1.1.1 1 (by decide) rfl hs.1.1.2.2.1 k23 dX4_unlike_56 ?_
              refine lv_iload_n hx hb dX4_unlike_59 rfl (lv_at hl 3 rfl) ?_
              refine q_aw (v := .ref (na b j)) hC hG (Or.inr hs.1.2.2.2.1.1) hs.1.2.2.2.1.2.1 (by omega) (by omega) (by rw [show rv (cM b n X M P) (b + 5) j = some (na b j) from hs.1.2.2.2.1.2.2 j (by omega)]; rfl) dX4_unlike_60 ?_
              obtain ⟨lgn4, hlgn4a, hlgn4⟩ := hs.2.2.2.1 j (by omega)
              have hLlgn4 := hL j (by omega)
              refine q_getr hC hG cF2 i2 (g_kn hs (by omega)) 12 (by decide) rfl hlgn4a k46 dX4_unlike_61 ?_
              refine lv_iload_n hx hb dX4_unlike_64 rfl (lv_at hl 0 rfl) ?_
              refine q_callV (rest := []) (k_X1_isLike l D cA A hs hJ (g1 := i) (g2 := j) hlgn3 (by omega) hlgn4 (by omega) (m_les (M 4 i) (M 4 j)) (by have := m_les_le (M 4 i) (M 4 j); omega) (by have := m_les_le (M 4 i) (M 4 j); omega)) hC hG cF1 hlgn3.1 2 gX4_unlike_X1_isLike rfl (by decide +kernel) ⟨by decide, by decide⟩ rfl hl.1 rfl (by simp [Value.category]) dX4_unlike_65 ⟨Nat.le_of_ble_eq_true rfl, Nat.le_of_ble_eq_true rfl⟩ (fun v Y H locs hq hG => ?_)
              obtain ⟨rfl, rfl⟩ := hq
              have qsm := c_sm_le M i j (6 * (m_les (M 4 i) (M 4 j)))
              refine n_ifne (tgt := 78) hC dX4_unlike_68 (by decide) (by omega) (fun c68 => ?_) (fun c68 => ?_)
              · refine n_iinc (n := 1) (k := 3) (lv' := [(2, .int (nI (j + 1))), (3, .int (nI (m_les (M 4 i) (M 4 j)))), (0, .ref b), (1, .int (nI i))]) hC dX4_unlike_78 hl rfl (by decide) rfl (fun ls hl => ?_)
                refine lv_goto (tgt := 15) hx hb dX4_unlike_81 (by decide) ?_
                exact ih (j + 1) _ _ _ (by omega) (by omega) (by omega) (by rw [← hT2, if_neg (sm_U1 c68)]) hG (lv_sub hl [2, 3, 0] rfl)
              · refine n_bipush hC 10 (by decide) dX4_unlike_71 ?_
                refine lv_iload_n hx hb dX4_unlike_73 rfl (lv_at hl 2 rfl) ?_
                refine n_imul hC dX4_unlike_74 ?_
                refine lv_iload_n hx hb dX4_unlike_75 rfl (lv_at hl 3 rfl) ?_
                refine n_iadd hC dX4_unlike_76 ?_
                exact q_iret (v := (nI ((10 * i) + j))) hC hG hr hlk (⟨by rw [← hT2, if_pos (sm_U0 c68)], rfl⟩) dX4_unlike_77
        exact loop2 (n + 1) (i + 1) _ _ _ (by omega) (by omega) (by omega) hT hG (lv_sub hl [1, 2, 0] rfl)
  exact loop1 (n + 1) 0 _ _ _ (by omega) (by omega) rfl hG (lv_sub hl [1, 0] rfl)

abbrev rmX4_digestOfNode : Room := { frames := 4, cells := 0, slots := 0, locals := 87 }
set_option maxHeartbeats 4000000 in
set_option maxRecDepth 100000 in
theorem k_X4_digestOfNode (l : Launch) (D : va_G) (cA : Nat → ClassId) (A : Nat → Prop) {b n f : Nat} {X : Mem} {M : MM} {P : Nat → Nat} (hs : Sd b n f X M) (hJ : J M) {i : Nat} (hi : i < n) (h0 : Int64) : mt l D cA A yX4_digestOfNode wsX4_digestOfNode rmX4_digestOfNode [.long h0, .ref (na b i)] (cM b n X M P) (fun w Y => w = some (.long (m_dgn n M i h0)) ∧ ∃ X1, Y = cM b n X1 M P ∧ Sd b n f X1 M ∧ go b n X X1) := by
  refine q_start (by decide) rfl (Nat.le_of_ble_eq_true rfl) (fun p e s m args below meth c H locs hC hr hlk hnm hG ls hl => ?_)
  have hl : lv_has ls 9 [(0, .long h0), (2, .ref (na b i))] := hl
  have hx := hC.1.1
  have hb := hC.1.2.1
  have hts := hC.1.2.2.2.2
  have i2 : ∀ w ∈ wsX20, w ∈ wsX4_digestOfNode := by decide +kernel
  have hnf := g_nf hs
  have hB := hJ.1
  have hL := hJ.2.1
  have hE := hJ.2.2.1
  have hgo := go_rf b n X
  have hLi := hL i (by omega)
  have k46 := hts (.fieldLink RX4 46 "ViewStamps$Node" "log" "LViewStamps$Log;") (by decide +kernel)
  refine lv_lload_n hx hb dX4_digestOfNode_0 rfl (lv_at hl 0 rfl) ?_
  refine lv_lstore_n (lv' := [(3, .long h0), (0, .long h0), (2, .ref (na b i))]) hx hb dX4_digestOfNode_1 rfl hl (by decide) rfl (fun ls hl => ?_)
  refine n_iconst hC 0 dX4_digestOfNode_2 ?_
  refine lv_istore (lv' := [(5, .int (nI 0)), (3, .long h0), (0, .long h0), (2, .ref (na b i))]) hx hb dX4_digestOfNode_3 hl (by decide) rfl (fun ls hl => ?_)
  have loopW : ∀ (d : Nat) (k : Nat) (h : Int64) (H : Heap) (locs : List Loc) (ls : Array Slot), 9 - k < d → k ≤ 9 → h = hg (fun w => m_node n M (nI i) (nI w)) k h0 → gw D cA A (cM b n X M P) s.heap H locs → lv_has ls 9 [(0, .long h0), (2, .ref (na b i)), (3, .long h), (5, .int (nI k))] → W p l e rmX4_digestOfNode s m args below meth c H locs 0 0 (MQ below (mQ D cA A (fun w Y => w = some (.long (m_dgn n M i h0)) ∧ ∃ X1, Y = cM b n X1 M P ∧ Sd b n f X1 M ∧ go b n X X1)) args s rmX4_digestOfNode.cells rmX4_digestOfNode.slots A) (F0 m 5 ls []) := by
    intro d
    induction d with
    | zero => intro k h H locs ls hd; exact absurd hd (Nat.not_lt_zero _)
    | succ d ih =>
      intro k h H locs ls hd hk hh hG hl
      refine lv_iload hx hb dX4_digestOfNode_5 (lv_at hl 3 rfl) ?_
      refine n_bipush hC 9 (by decide) dX4_digestOfNode_7 ?_
      refine n_ge (tgt := 32) hC dX4_digestOfNode_9 (by decide) (by omega) (by omega) (fun c9 => ?_) (fun c9 => ?_)
      · have c9n := Nat.not_lt.mpr c9
        refine n_iconst hC 1 dX4_digestOfNode_32 ?_
        refine lv_istore (lv' := [(5, .int (nI 1)), (0, .long h0), (2, .ref (na b i)), (3, .long h)]) hx hb dX4_digestOfNode_33 hl (by decide) rfl (fun ls hl => ?_)
        have loopE : ∀ (d : Nat) (k : Nat) (h : Int64) (H : Heap) (locs : List Loc) (ls : Array Slot), M 3 i - k < d → k ≤ M 3 i → h = hg (fun k => nI (M 2 (96 * i + k))) (6 * k) (hg (fun w => m_node n M (nI i) (nI w)) 9 h0) → gw D cA A (cM b n X M P) s.heap H locs → lv_has ls 9 [(0, .long h0), (2, .ref (na b i)), (3, .long h), (5, .int (nI (k + 1)))] → W p l e rmX4_digestOfNode s m args below meth c H locs 0 0 (MQ below (mQ D cA A (fun w Y => w = some (.long (m_dgn n M i h0)) ∧ ∃ X1, Y = cM b n X1 M P ∧ Sd b n f X1 M ∧ go b n X X1)) args s rmX4_digestOfNode.cells rmX4_digestOfNode.slots A) (F0 m 35 ls []) := by
          intro d
          induction d with
          | zero => intro k h H locs ls hd; exact absurd hd (Nat.not_lt_zero _)
          | succ d ih =>
            intro k h H locs ls hd hk hh hG hl
            refine lv_iload hx hb dX4_digestOfNode_35 (lv_at hl 3 rfl) ?_
            refine lv_aload_n hx hb dX4_digestOfNode_37 rfl (lv_at hl 1 rfl) ?_
            obtain ⟨lgn1, hlgn1a, hlgn1⟩ := hs.2.2.2.1 i (by omega)
            have hLlgn1 := hL i (by omega)
            refine q_getr hC hG cF2 i2 (g_kn hs (by omega)) 12 (by decide) rfl hlgn1a k46 dX4_digestOfNode_38 ?_
            refine q_callV (rest := [.int (nI (k + 1))]) (k_X1_size l D cA A hs hlgn1 hLlgn1.1) hC hG cF1 hlgn1.1 0 gX4_digestOfNode_X1_size rfl (by decide +kernel) ⟨by decide, by decide⟩ rfl hl.1 rfl (by simp [Value.category]) dX4_digestOfNode_41 ⟨Nat.le_of_ble_eq_true rfl, Nat.le_of_ble_eq_true rfl⟩ (fun v Y H locs hq hG => ?_)
            obtain ⟨rfl, rfl⟩ := hq
            refine n_gt (tgt := 88) hC dX4_digestOfNode_44 (by decide) (by omega) (by omega) (fun c44 => ?_) (fun c44 => ?_)
            · have c44n := Nat.not_le.mpr c44
              refine lv_aload_n hx hb dX4_digestOfNode_88 rfl (lv_at hl 1 rfl) ?_
              refine q_callV (rest := []) (k_X2_workOutRegisters l D cA A hs hJ (i := i) (by omega)) hC hG cF2 (g_kn hs (by omega)) 0 gX4_digestOfNode_X2_workOutRegisters rfl (by decide +kernel) ⟨by decide, by decide⟩ rfl hl.1 rfl (by simp [Value.category]) dX4_digestOfNode_89 ⟨Nat.le_of_ble_eq_true rfl, Nat.le_of_ble_eq_true rfl⟩ (fun v Y H locs hq hG => ?_)
              obtain ⟨rfl, Xr, rfl, hs, hgr, hreg⟩ := hq
              have hgo := go_tr hgo hgr
              refine lv_astore (lv' := [(5, .ref (na b i + 1)), (0, .long h0), (2, .ref (na b i)), (3, .long h)]) hx hb dX4_digestOfNode_92 hl (by decide) rfl (fun ls hl => ?_)
              refine lv_aload hx hb dX4_digestOfNode_94 (lv_at hl 0 rfl) ?_
              refine q_alen hC hG (k := 7) (show kd Xr (na b i + 1) = 7 ∧ ln Xr (na b i + 1) = 8 from ⟨(hs.1.2.2.2.2.2.1 i (by omega)).2.2.1, (hs.1.2.2.2.2.2.1 i (by omega)).2.2.2.1⟩).1 (by decide) (by decide) (show kd Xr (na b i + 1) = 7 ∧ ln Xr (na b i + 1) = 8 from ⟨(hs.1.2.2.2.2.2.1 i (by omega)).2.2.1, (hs.1.2.2.2.2.2.1 i (by omega)).2.2.2.1⟩).2 dX4_digestOfNode_96 ?_
              refine lv_istore (lv' := [(6, .int (nI 8)), (5, .ref (na b i + 1)), (0, .long h0), (2, .ref (na b i)), (3, .long h)]) hx hb dX4_digestOfNode_97 hl (by decide) rfl (fun ls hl => ?_)
              refine n_iconst hC 0 dX4_digestOfNode_99 ?_
              refine lv_istore (lv' := [(7, .int (nI 0)), (6, .int (nI 8)), (5, .ref (na b i + 1)), (0, .long h0), (2, .ref (na b i)), (3, .long h)]) hx hb dX4_digestOfNode_100 hl (by decide) rfl (fun ls hl => ?_)
              have loopR : ∀ (d : Nat) (k : Nat) (h : Int64) (H : Heap) (locs : List Loc) (ls : Array Slot), 8 - k < d → k ≤ 8 → h = hg (fun r => m_register n M (nI i) (nI r)) k (hg (fun k => nI (M 2 (96 * i + k))) (6 * M 3 i) (hg (fun w => m_node n M (nI i) (nI w)) 9 h0)) → gw D cA A (cM b n Xr M P) s.heap H locs → lv_has ls 9 [(0, .long h0), (2, .ref (na b i)), (3, .long h), (5, .ref (na b i + 1)), (6, .int (nI 8)), (7, .int (nI k))] → W p l e rmX4_digestOfNode s m args below meth c H locs 0 0 (MQ below (mQ D cA A (fun w Y => w = some (.long (m_dgn n M i h0)) ∧ ∃ X1, Y = cM b n X1 M P ∧ Sd b n f X1 M ∧ go b n X X1)) args s rmX4_digestOfNode.cells rmX4_digestOfNode.slots A) (F0 m 102 ls []) := by
                intro d
                induction d with
                | zero => intro k h H locs ls hd; exact absurd hd (Nat.not_lt_zero _)
                | succ d ih =>
                  intro k h H locs ls hd hk hh hG hl
                  refine lv_iload hx hb dX4_digestOfNode_102 (lv_at hl 5 rfl) ?_
                  refine lv_iload hx hb dX4_digestOfNode_104 (lv_at hl 4 rfl) ?_
                  refine n_ge (tgt := 132) hC dX4_digestOfNode_106 (by decide) (by omega) (by omega) (fun c106 => ?_) (fun c106 => ?_)
                  · have c106n := Nat.not_lt.mpr c106
                    refine lv_lload_n hx hb dX4_digestOfNode_132 rfl (lv_at hl 2 rfl) ?_
                    exact q_lret (v := h) hC hG hr hlk (⟨by rw [dgn_eq, hh, show k = 8 by omega], Xr, rfl, hs, hgo⟩) dX4_digestOfNode_133
                  · have c106n := Nat.not_le.mpr c106
                    refine lv_aload hx hb dX4_digestOfNode_109 (lv_at hl 3 rfl) ?_
                    refine lv_iload hx hb dX4_digestOfNode_111 (lv_at hl 5 rfl) ?_
                    refine q_iw (w := iv Xr (na b i + 1) k) hC hG (show kd Xr (na b i + 1) = 7 ∧ ln Xr (na b i + 1) = 8 from ⟨(hs.1.2.2.2.2.2.1 i (by omega)).2.2.1, (hs.1.2.2.2.2.2.1 i (by omega)).2.2.2.1⟩).1 (show kd Xr (na b i + 1) = 7 ∧ ln Xr (na b i + 1) = 8 from ⟨(hs.1.2.2.2.2.2.1 i (by omega)).2.2.1, (hs.1.2.2.2.2.2.1 i (by omega)).2.2.2.1⟩).2 (by omega) (by omega) (cM_r1 (by omega) _ _ _ _) dX4_digestOfNode_113 ?_
                    refine lv_istore (lv' := [(8, .int (nI (iv Xr (na b i + 1) k))), (0, .long h0), (2, .ref (na b i)), (3, .long h), (5, .ref (na b i + 1)), (6, .int (nI 8)), (7, .int (nI k))]) hx hb dX4_digestOfNode_114 hl (by decide) rfl (fun ls hl => ?_)
                    refine lv_ldc2 (v := 31) hx hb hC.1.2.2.2.1 (hts (.constantLong RX4 166 (31)) (by decide +kernel)) dX4_digestOfNode_116 ?_
                    refine lv_lload_n hx hb dX4_digestOfNode_119 rfl (lv_at hl 3 rfl) ?_
                    refine lv_lmul hx hb dX4_digestOfNode_120 ?_
                    refine lv_iload hx hb dX4_digestOfNode_121 (lv_at hl 0 rfl) ?_
                    refine lv_i2l hx hb dX4_digestOfNode_123 rfl ?_
                    refine lv_ladd hx hb dX4_digestOfNode_124 ?_
                    refine lv_lstore_n (lv' := [(3, .long ((31 * h) + ((nI (iv Xr (na b i + 1) k)).toInt64))), (8, .int (nI (iv Xr (na b i + 1) k))), (0, .long h0), (2, .ref (na b i)), (5, .ref (na b i + 1)), (6, .int (nI 8)), (7, .int (nI k))]) hx hb dX4_digestOfNode_125 rfl hl (by decide) rfl (fun ls hl => ?_)
                    refine n_iinc (n := 1) (k := 6) (lv' := [(7, .int (nI (k + 1))), (3, .long ((31 * h) + ((nI (iv Xr (na b i + 1) k)).toInt64))), (8, .int (nI (iv Xr (na b i + 1) k))), (0, .long h0), (2, .ref (na b i)), (5, .ref (na b i + 1)), (6, .int (nI 8))]) hC dX4_digestOfNode_126 hl rfl (by decide) rfl (fun ls hl => ?_)
                    refine lv_goto (tgt := 102) hx hb dX4_digestOfNode_129 (by decide) ?_
                    exact ih (k + 1) _ _ _ _ (by omega) (by omega) (by rw [hg_s, ← hh, reg_in hi (by omega) (by omega), hreg k (by omega)]) hG (lv_sub hl [3, 4, 1, 5, 6, 0] rfl)
              exact loopR 9 0 h _ _ _ (by omega) (by omega) (by rw [hg_0, hh, show k = M 3 i by omega]) hG (lv_sub hl [3, 4, 5, 2, 1, 0] rfl)
            · have c44n := Nat.not_lt.mpr c44
              refine n_iconst hC 0 dX4_digestOfNode_47 ?_
              refine lv_istore (lv' := [(6, .int (nI 0)), (0, .long h0), (2, .ref (na b i)), (3, .long h), (5, .int (nI (k + 1)))]) hx hb dX4_digestOfNode_48 hl (by decide) rfl (fun ls hl => ?_)
              have ih1 := ih
              have loopF : ∀ (d : Nat) (w : Nat) (h : Int64) (H : Heap) (locs : List Loc) (ls : Array Slot), 6 - w < d → w ≤ 6 → h = hg (fun k => nI (M 2 (96 * i + k))) (6 * k + w) (hg (fun w => m_node n M (nI i) (nI w)) 9 h0) → gw D cA A (cM b n X M P) s.heap H locs → lv_has ls 9 [(0, .long h0), (2, .ref (na b i)), (3, .long h), (5, .int (nI (k + 1))), (6, .int (nI w))] → W p l e rmX4_digestOfNode s m args below meth c H locs 0 0 (MQ below (mQ D cA A (fun w Y => w = some (.long (m_dgn n M i h0)) ∧ ∃ X1, Y = cM b n X1 M P ∧ Sd b n f X1 M ∧ go b n X X1)) args s rmX4_digestOfNode.cells rmX4_digestOfNode.slots A) (F0 m 50 ls []) := by
                intro d
                induction d with
                | zero => intro w h H locs ls hd; exact absurd hd (Nat.not_lt_zero _)
                | succ d ih =>
                  intro w h H locs ls hd hw hh hG hl
                  refine lv_iload hx hb dX4_digestOfNode_50 (lv_at hl 4 rfl) ?_
                  refine n_bipush hC 6 (by decide) dX4_digestOfNode_52 ?_
                  refine n_ge (tgt := 82) hC dX4_digestOfNode_54 (by decide) (by omega) (by omega) (fun c54 => ?_) (fun c54 => ?_)
                  · have c54n := Nat.not_lt.mpr c54
                    refine n_iinc (n := 1) (k := 3) (lv' := [(5, .int (nI ((k + 1) + 1))), (0, .long h0), (2, .ref (na b i)), (3, .long h), (6, .int (nI w))]) hC dX4_digestOfNode_82 hl rfl (by decide) rfl (fun ls hl => ?_)
                    refine lv_goto (tgt := 35) hx hb dX4_digestOfNode_85 (by decide) ?_
                    exact ih1 (k + 1) _ _ _ _ (by omega) (by omega) (by rw [show 6 * (k + 1) = 6 * k + w by omega]; exact hh) hG (lv_sub hl [1, 2, 3, 0] rfl)
                  · have c54n := Nat.not_le.mpr c54
                    refine lv_ldc2 (v := 31) hx hb hC.1.2.2.2.1 (hts (.constantLong RX4 166 (31)) (by decide +kernel)) dX4_digestOfNode_57 ?_
                    refine lv_lload_n hx hb dX4_digestOfNode_60 rfl (lv_at hl 2 rfl) ?_
                    refine lv_lmul hx hb dX4_digestOfNode_61 ?_
                    refine lv_aload_n hx hb dX4_digestOfNode_62 rfl (lv_at hl 1 rfl) ?_
                    obtain ⟨lgn2, hlgn2a, hlgn2⟩ := hs.2.2.2.1 i (by omega)
                    have hLlgn2 := hL i (by omega)
                    refine q_getr hC hG cF2 i2 (g_kn hs (by omega)) 12 (by decide) rfl hlgn2a k46 dX4_digestOfNode_63 ?_
                    refine lv_iload hx hb dX4_digestOfNode_66 (lv_at hl 3 rfl) ?_
                    refine lv_iload hx hb dX4_digestOfNode_68 (lv_at hl 4 rfl) ?_
                    refine q_callV (rest := [.long (31 * h)]) (k_X1_field l D cA A hs hlgn2 hLlgn2.1 (nI (k + 1)) (nI w)) hC hG cF1 hlgn2.1 2 gX4_digestOfNode_X1_field rfl (by decide +kernel) ⟨by decide, by decide⟩ rfl hl.1 rfl (by simp [Value.category]) dX4_digestOfNode_70 ⟨Nat.le_of_ble_eq_true rfl, Nat.le_of_ble_eq_true rfl⟩ (fun v Y H locs hq hG => ?_)
                    obtain ⟨rfl, rfl⟩ := hq
                    rw [c_fld_s (by omega) (by omega) (by omega)]
                    refine lv_i2l hx hb dX4_digestOfNode_73 rfl ?_
                    refine lv_ladd hx hb dX4_digestOfNode_74 ?_
                    refine lv_lstore_n (lv' := [(3, .long ((31 * h) + ((nI (M 2 (96 * i + 6 * k + w))).toInt64))), (0, .long h0), (2, .ref (na b i)), (5, .int (nI (k + 1))), (6, .int (nI w))]) hx hb dX4_digestOfNode_75 rfl hl (by decide) rfl (fun ls hl => ?_)
                    refine n_iinc (n := 1) (k := 4) (lv' := [(6, .int (nI (w + 1))), (3, .long ((31 * h) + ((nI (M 2 (96 * i + 6 * k + w))).toInt64))), (0, .long h0), (2, .ref (na b i)), (5, .int (nI (k + 1)))]) hC dX4_digestOfNode_76 hl rfl (by decide) rfl (fun ls hl => ?_)
                    refine lv_goto (tgt := 50) hx hb dX4_digestOfNode_79 (by decide) ?_
                    exact ih (w + 1) _ _ _ _ (by omega) (by omega) (by rw [← Nat.add_assoc, hg_s, ← hh, ← Nat.add_assoc]) hG (lv_sub hl [2, 3, 1, 4, 0] rfl)
              exact loopF 7 0 h _ _ _ (by omega) (by omega) hh hG (lv_sub hl [1, 2, 3, 4, 0] rfl)
        exact loopE (M 3 i + 1) 0 h _ _ _ (by omega) (by omega) (by rw [Nat.mul_zero, hg_0, hh, show k = 9 by omega]) hG (lv_sub hl [1, 2, 3, 0] rfl)
      · have c9n := Nat.not_le.mpr c9
        refine lv_ldc2 (v := 31) hx hb hC.1.2.2.2.1 (hts (.constantLong RX4 166 (31)) (by decide +kernel)) dX4_digestOfNode_12 ?_
        refine lv_lload_n hx hb dX4_digestOfNode_15 rfl (lv_at hl 2 rfl) ?_
        refine lv_lmul hx hb dX4_digestOfNode_16 ?_
        refine lv_aload_n hx hb dX4_digestOfNode_17 rfl (lv_at hl 1 rfl) ?_
        refine lv_iload hx hb dX4_digestOfNode_18 (lv_at hl 3 rfl) ?_
        refine q_callV (rest := [.long (31 * h)]) (k_X2_field l D cA A hs hJ (i := i) (by omega) (nI k)) hC hG cF2 (g_kn hs (by omega)) 1 gX4_digestOfNode_X2_field rfl (by decide +kernel) ⟨by decide, by decide⟩ rfl hl.1 rfl (by simp [Value.category]) dX4_digestOfNode_20 ⟨Nat.le_of_ble_eq_true rfl, Nat.le_of_ble_eq_true rfl⟩ (fun v Y H locs hq hG => ?_)
        obtain ⟨rfl, rfl⟩ := hq
        refine lv_i2l hx hb dX4_digestOfNode_23 rfl ?_
        refine lv_ladd hx hb dX4_digestOfNode_24 ?_
        refine lv_lstore_n (lv' := [(3, .long ((31 * h) + ((m_nd n M i (nI k)).toInt64))), (0, .long h0), (2, .ref (na b i)), (5, .int (nI k))]) hx hb dX4_digestOfNode_25 rfl hl (by decide) rfl (fun ls hl => ?_)
        refine n_iinc (n := 1) (k := 3) (lv' := [(5, .int (nI (k + 1))), (3, .long ((31 * h) + ((m_nd n M i (nI k)).toInt64))), (0, .long h0), (2, .ref (na b i))]) hC dX4_digestOfNode_26 hl rfl (by decide) rfl (fun ls hl => ?_)
        refine lv_goto (tgt := 5) hx hb dX4_digestOfNode_29 (by decide) ?_
        exact ih (k + 1) _ _ _ _ (by omega) (by omega) (by rw [hg_s, ← hh, nd_in hi (by omega)]) hG (lv_sub hl [2, 3, 1, 0] rfl)
  exact loopW 10 0 h0 _ _ _ (by omega) (by omega) rfl hG (lv_sub hl [2, 3, 1, 0] rfl)

abbrev rmX4_digest : Room := { frames := 5, cells := 0, slots := 0, locals := 115 }
set_option maxHeartbeats 4000000 in
set_option maxRecDepth 100000 in
theorem k_X4_digest (l : Launch) (D : va_G) (cA : Nat → ClassId) (A : Nat → Prop) {b n f : Nat} {X : Mem} {M : MM} {P : Nat → Nat} (hs : Sd b n f X M) (hJ : J M) : mt l D cA A yX4_digest wsX4_digest rmX4_digest [.ref b] (cM b n X M P) (fun w Y => w = some (.long (m_digest n M)) ∧ ∃ X1, Y = cM b n X1 M P ∧ Sd b n f X1 M ∧ go b n X X1) := by
  refine q_start (by decide) rfl (Nat.le_of_ble_eq_true rfl) (fun p e s m args below meth c H locs hC hr hlk hnm hG ls hl => ?_)
  have hl : lv_has ls 7 [(0, .ref b)] := hl
  have hx := hC.1.1
  have hb := hC.1.2.1
  have hts := hC.1.2.2.2.2
  have i4 : ∀ w ∈ wsX40, w ∈ wsX4_digest := by decide +kernel
  have i3 : ∀ w ∈ wsX30, w ∈ wsX4_digest := by decide +kernel
  have hnf := g_nf hs
  have hB := hJ.1
  have hL := hJ.2.1
  have hE := hJ.2.2.1
  have hgo := go_rf b n X
  have h17 := hB.2
  have k15 := hts (.fieldLink RX4 15 "ViewStamps" "pool" "LViewStamps$Pool;") (by decide +kernel)
  have k23 := hts (.fieldLink RX4 23 "ViewStamps" "nodes" "[LViewStamps$Node;") (by decide +kernel)
  have k133 := hts (.fieldLink RX4 133 "ViewStamps$Pool" "posted" "I") (by decide +kernel)
  refine lv_ldc2 (v := 17) hx hb hC.1.2.2.2.1 (hts (.constantLong RX4 160 (17)) (by decide +kernel)) dX4_digest_0 ?_
  refine lv_lstore_n (lv' := [(1, .long 17), (0, .ref b)]) hx hb dX4_digest_3 rfl hl (by decide) rfl (fun ls hl => ?_)
  refine lv_aload_n hx hb dX4_digest_4 rfl (lv_at hl 1 rfl) ?_
  refine q_getr hC hG cF4 i4 hs.1.1.1 1 (by decide) rfl hs.1.1.2.2.1 k23 dX4_digest_5 ?_
  refine lv_astore_n (lv' := [(3, .ref (b + 5)), (1, .long 17), (0, .ref b)]) hx hb dX4_digest_8 rfl hl (by decide) rfl (fun ls hl => ?_)
  refine lv_aload_n hx hb dX4_digest_9 rfl (lv_at hl 0 rfl) ?_
  refine q_alen hC hG (k := 10) hs.1.2.2.2.1.1 (by decide) (by decide) hs.1.2.2.2.1.2.1 dX4_digest_10 ?_
  refine lv_istore (lv' := [(4, .int (nI n)), (3, .ref (b + 5)), (1, .long 17), (0, .ref b)]) hx hb dX4_digest_11 hl (by decide) rfl (fun ls hl => ?_)
  refine n_iconst hC 0 dX4_digest_13 ?_
  refine lv_istore (lv' := [(5, .int (nI 0)), (4, .int (nI n)), (3, .ref (b + 5)), (1, .long 17), (0, .ref b)]) hx hb dX4_digest_14 hl (by decide) rfl (fun ls hl => ?_)
  have loopN : ∀ (d : Nat) (i : Nat) (h : Int64) (X1 : Mem) (H : Heap) (locs : List Loc) (ls : Array Slot), n - i < d → i ≤ n → Sd b n f X1 M → go b n X X1 → h = m_dg1 n M i → gw D cA A (cM b n X1 M P) s.heap H locs → lv_has ls 7 [(0, .ref b), (1, .long h), (3, .ref (b + 5)), (4, .int (nI n)), (5, .int (nI i))] → W p l e rmX4_digest s m args below meth c H locs 0 0 (MQ below (mQ D cA A (fun w Y => w = some (.long (m_digest n M)) ∧ ∃ X1, Y = cM b n X1 M P ∧ Sd b n f X1 M ∧ go b n X X1)) args s rmX4_digest.cells rmX4_digest.slots A) (F0 m 16 ls []) := by
    intro d
    induction d with
    | zero => intro i h X1 H locs ls hd; exact absurd hd (Nat.not_lt_zero _)
    | succ d ih =>
      intro i h X1 H locs ls hd hi hs hgo hh hG hl
      refine lv_iload hx hb dX4_digest_16 (lv_at hl 4 rfl) ?_
      refine lv_iload hx hb dX4_digest_18 (lv_at hl 3 rfl) ?_
      refine n_ge (tgt := 42) hC dX4_digest_20 (by decide) (by omega) (by omega) (fun c20 => ?_) (fun c20 => ?_)
      · have c20n := Nat.not_lt.mpr c20
        refine n_iconst hC 0 dX4_digest_42 ?_
        refine lv_istore_n (lv' := [(3, .int (nI 0)), (0, .ref b), (1, .long h), (4, .int (nI n)), (5, .int (nI i))]) hx hb dX4_digest_43 rfl hl (by decide) rfl (fun ls hl => ?_)
        have loopL : ∀ (d : Nat) (l1 : Nat) (h : Int64) (H : Heap) (locs : List Loc) (ls : Array Slot), M 17 0 - l1 < d → l1 ≤ M 17 0 → h = m_dg2 n M l1 → gw D cA A (cM b n X1 M P) s.heap H locs → lv_has ls 7 [(0, .ref b), (1, .long h), (3, .int (nI l1))] → W p l e rmX4_digest s m args below meth c H locs 0 0 (MQ below (mQ D cA A (fun w Y => w = some (.long (m_digest n M)) ∧ ∃ X1, Y = cM b n X1 M P ∧ Sd b n f X1 M ∧ go b n X X1)) args s rmX4_digest.cells rmX4_digest.slots A) (F0 m 44 ls []) := by
          intro d
          induction d with
          | zero => intro l1 h H locs ls hd; exact absurd hd (Nat.not_lt_zero _)
          | succ d ih =>
            intro l1 h H locs ls hd hl1 hh hG hl
            refine lv_iload_n hx hb dX4_digest_44 rfl (lv_at hl 2 rfl) ?_
            refine lv_aload_n hx hb dX4_digest_45 rfl (lv_at hl 0 rfl) ?_
            refine q_getr hC hG cF4 i4 hs.1.1.1 0 (by decide) rfl hs.1.1.2.1 k15 dX4_digest_46 ?_
            refine q_gw (w := M 17 0) hC hG cF3 i3 hs.1.2.2.1.1 1 (by decide) rfl (cM_p1 b n _ _ _) k133 dX4_digest_49 ?_
            have b1 : M 17 0 ≤ 240 := by have := hB.2; first | exact this | (simp [up2, m_cp, m_cpk] at this; exact this) | omega
            refine n_ge (tgt := 92) hC dX4_digest_52 (by decide) (by omega) (by omega) (fun c52 => ?_) (fun c52 => ?_)
            · have c52n := Nat.not_lt.mpr c52
              refine lv_lload_n hx hb dX4_digest_92 rfl (lv_at hl 1 rfl) ?_
              exact q_lret (v := h) hC hG hr hlk (⟨by rw [hh, show l1 = M 17 0 by omega]; rfl, X1, rfl, hs, hgo⟩) dX4_digest_93
            · have c52n := Nat.not_le.mpr c52
              refine n_iconst hC 0 dX4_digest_55 ?_
              refine lv_istore (lv' := [(4, .int (nI 0)), (0, .ref b), (1, .long h), (3, .int (nI l1))]) hx hb dX4_digest_56 hl (by decide) rfl (fun ls hl => ?_)
              have ih1 := ih
              have loopM : ∀ (d : Nat) (k : Nat) (h : Int64) (H : Heap) (locs : List Loc) (ls : Array Slot), 8 - k < d → k ≤ 8 → h = hg (fun w => m_letter M (nI l1) (nI w)) k (m_dg2 n M l1) → gw D cA A (cM b n X1 M P) s.heap H locs → lv_has ls 7 [(0, .ref b), (1, .long h), (3, .int (nI l1)), (4, .int (nI k))] → W p l e rmX4_digest s m args below meth c H locs 0 0 (MQ below (mQ D cA A (fun w Y => w = some (.long (m_digest n M)) ∧ ∃ X1, Y = cM b n X1 M P ∧ Sd b n f X1 M ∧ go b n X X1)) args s rmX4_digest.cells rmX4_digest.slots A) (F0 m 58 ls []) := by
                intro d
                induction d with
                | zero => intro k h H locs ls hd; exact absurd hd (Nat.not_lt_zero _)
                | succ d ih =>
                  intro k h H locs ls hd hk hh hG hl
                  refine lv_iload hx hb dX4_digest_58 (lv_at hl 3 rfl) ?_
                  refine n_bipush hC 8 (by decide) dX4_digest_60 ?_
                  refine n_ge (tgt := 86) hC dX4_digest_62 (by decide) (by omega) (by omega) (fun c62 => ?_) (fun c62 => ?_)
                  · have c62n := Nat.not_lt.mpr c62
                    refine n_iinc (n := 1) (k := 2) (lv' := [(3, .int (nI (l1 + 1))), (0, .ref b), (1, .long h), (4, .int (nI k))]) hC dX4_digest_86 hl rfl (by decide) rfl (fun ls hl => ?_)
                    refine lv_goto (tgt := 44) hx hb dX4_digest_89 (by decide) ?_
                    exact ih1 (l1 + 1) _ _ _ _ (by omega) (by omega) (by rw [dg2_s, hh, show k = 8 by omega]) hG (lv_sub hl [1, 2, 0] rfl)
                  · have c62n := Nat.not_le.mpr c62
                    refine lv_ldc2 (v := 31) hx hb hC.1.2.2.2.1 (hts (.constantLong RX4 166 (31)) (by decide +kernel)) dX4_digest_65 ?_
                    refine lv_lload_n hx hb dX4_digest_68 rfl (lv_at hl 1 rfl) ?_
                    refine lv_lmul hx hb dX4_digest_69 ?_
                    refine lv_aload_n hx hb dX4_digest_70 rfl (lv_at hl 0 rfl) ?_
                    refine lv_iload_n hx hb dX4_digest_71 rfl (lv_at hl 2 rfl) ?_
                    refine lv_iload hx hb dX4_digest_72 (lv_at hl 3 rfl) ?_
                    refine q_callV (rest := [.long (31 * h)]) (k_X4_letter l D cA A hs hJ (nI l1) (nI k)) hC hG cF4 hs.1.1.1 2 gX4_digest_X4_letter rfl (by decide +kernel) ⟨by decide, by decide⟩ rfl hl.1 rfl (by simp [Value.category]) dX4_digest_74 ⟨Nat.le_of_ble_eq_true rfl, Nat.le_of_ble_eq_true rfl⟩ (fun v Y H locs hq hG => ?_)
                    obtain ⟨rfl, rfl⟩ := hq
                    refine lv_i2l hx hb dX4_digest_77 rfl ?_
                    refine lv_ladd hx hb dX4_digest_78 ?_
                    refine lv_lstore_n (lv' := [(1, .long ((31 * h) + ((m_letter M (nI l1) (nI k)).toInt64))), (0, .ref b), (3, .int (nI l1)), (4, .int (nI k))]) hx hb dX4_digest_79 rfl hl (by decide) rfl (fun ls hl => ?_)
                    refine n_iinc (n := 1) (k := 3) (lv' := [(4, .int (nI (k + 1))), (1, .long ((31 * h) + ((m_letter M (nI l1) (nI k)).toInt64))), (0, .ref b), (3, .int (nI l1))]) hC dX4_digest_80 hl rfl (by decide) rfl (fun ls hl => ?_)
                    refine lv_goto (tgt := 58) hx hb dX4_digest_83 (by decide) ?_
                    exact ih (k + 1) _ _ _ _ (by omega) (by omega) (by rw [hg_s, ← hh]) hG (lv_sub hl [2, 1, 3, 0] rfl)
              exact loopM 9 0 h _ _ _ (by omega) (by omega) hh hG (lv_sub hl [1, 2, 3, 0] rfl)
        exact loopL (M 17 0 + 1) 0 h _ _ _ (by omega) (by omega) (by rw [hh, show i = n by omega]; rfl) hG (lv_sub hl [1, 2, 0] rfl)
      · have c20n := Nat.not_le.mpr c20
        refine lv_aload_n hx hb dX4_digest_23 rfl (lv_at hl 2 rfl) ?_
        refine lv_iload hx hb dX4_digest_24 (lv_at hl 4 rfl) ?_
        refine q_aw (v := .ref (na b i)) hC hG (Or.inr hs.1.2.2.2.1.1) hs.1.2.2.2.1.2.1 (by omega) (by omega) (by rw [show rv (cM b n X1 M P) (b + 5) i = some (na b i) from hs.1.2.2.2.1.2.2 i (by omega)]; rfl) dX4_digest_26 ?_
        refine lv_astore (lv' := [(6, .ref (na b i)), (0, .ref b), (1, .long h), (3, .ref (b + 5)), (4, .int (nI n)), (5, .int (nI i))]) hx hb dX4_digest_27 hl (by decide) rfl (fun ls hl => ?_)
        refine lv_lload_n hx hb dX4_digest_29 rfl (lv_at hl 2 rfl) ?_
        refine lv_aload hx hb dX4_digest_30 (lv_at hl 0 rfl) ?_
        refine q_callS (rest := []) (k_X4_digestOfNode l D cA A hs hJ (i := i) (by omega) h) hC hG 2 gX4_digest_X4_digestOfNode rfl (by decide +kernel) ⟨by decide, by decide⟩ rfl hl.1 rfl (by simp [Value.category]) dX4_digest_32 ⟨Nat.le_of_ble_eq_true rfl, Nat.le_of_ble_eq_true rfl⟩ (fun v Y H locs hq hG => ?_)
        obtain ⟨rfl, Xd, rfl, hs, hgd⟩ := hq
        have hgo := go_tr hgo hgd
        refine lv_lstore_n (lv' := [(1, .long (m_dgn n M i h)), (6, .ref (na b i)), (0, .ref b), (3, .ref (b + 5)), (4, .int (nI n)), (5, .int (nI i))]) hx hb dX4_digest_35 rfl hl (by decide) rfl (fun ls hl => ?_)
        refine n_iinc (n := 1) (k := 5) (lv' := [(5, .int (nI (i + 1))), (1, .long (m_dgn n M i h)), (6, .ref (na b i)), (0, .ref b), (3, .ref (b + 5)), (4, .int (nI n))]) hC dX4_digest_36 hl rfl (by decide) rfl (fun ls hl => ?_)
        refine lv_goto (tgt := 16) hx hb dX4_digest_39 (by decide) ?_
        exact ih (i + 1) _ Xd _ _ _ (by omega) (by omega) hs hgo (by rw [m_dg1, hh]) hG (lv_sub hl [3, 1, 4, 5, 0] rfl)
  exact loopN (n + 1) 0 _ X _ _ _ (by omega) (by omega) hs hgo rfl hG (lv_sub hl [4, 3, 2, 1, 0] rfl)
