abbrev rmX4_nodeAt : Room := { frames := 0, cells := 0, slots := 0, locals := 0 }
set_option maxHeartbeats 4000000 in
set_option maxRecDepth 100000 in
theorem k_X4_nodeAt (l : Launch) (D : va_G) (cA : Nat → ClassId) (A : Nat → Prop) {b n f : Nat} {X : Mem} {M : MM} {P : Nat → Nat} (hs : Sd b n f X M) (hJ : J M) (nr : Int32) : mt l D cA A yX4_nodeAt wsX4_nodeAt rmX4_nodeAt [.ref b, .int nr] (cM b n X M P) (fun v Y => Y = cM b n X M P ∧ ((∃ j, j < n ∧ nr = nI j ∧ v = some (.ref (na b j))) ∨ (m_isNode n nr = 0 ∧ v = some .null))) := by
  refine q_start (by decide) rfl (Nat.le_of_ble_eq_true rfl) (fun p e s m args below meth c H locs hC hr hlk hnm hG ls hl => ?_)
  have hl : lv_has ls 2 [(0, .ref b), (1, .int nr)] := hl
  have hx := hC.1.1
  have hb := hC.1.2.1
  have hts := hC.1.2.2.2.2
  have i4 : ∀ w ∈ wsX40, w ∈ wsX4_nodeAt := by decide +kernel
  have hnf := g_nf hs
  have hB := hJ.1
  have hL := hJ.2.1
  have hE := hJ.2.2.1
  have k23 := hts (.fieldLink RX4 23 "ViewStamps" "nodes" "[LViewStamps$Node;") (by decide +kernel)
  refine lv_iload_n hx hb dX4_nodeAt_0 rfl (lv_at hl 1 rfl) ?_
  refine lv_if_lt (tgt := 22) hx hb dX4_nodeAt_1 (by decide) (fun c1 => ?_) (fun c1 => ?_)
  · refine lv_null hx hb dX4_nodeAt_22 ?_
    exact q_aret (v := none) hC hG hr (by first | exact Or.inl ⟨_, rfl⟩ | exact Or.inr ⟨_, rfl⟩) hlk (⟨rfl, Or.inr ⟨isNode_no (by omega) (by omega) (Or.inl c1), rfl⟩⟩) dX4_nodeAt_23
  · refine lv_iload_n hx hb dX4_nodeAt_4 rfl (lv_at hl 1 rfl) ?_
    refine lv_aload_n hx hb dX4_nodeAt_5 rfl (lv_at hl 0 rfl) ?_
    refine q_getr hC hG cF4 i4 hs.1.1.1 1 (by decide) rfl hs.1.1.2.2.1 k23 dX4_nodeAt_6 ?_
    refine q_alen hC hG (k := 10) hs.1.2.2.2.1.1 (by decide) (by decide) hs.1.2.2.2.1.2.1 dX4_nodeAt_9 ?_
    refine lv_icmp_ge (tgt := 22) hx hb dX4_nodeAt_10 (by decide) (fun c10 => ?_) (fun c10 => ?_)
    · refine lv_null hx hb dX4_nodeAt_22 ?_
      exact q_aret (v := none) hC hG hr (by first | exact Or.inl ⟨_, rfl⟩ | exact Or.inr ⟨_, rfl⟩) hlk (⟨rfl, Or.inr ⟨isNode_no (by omega) (by omega) (Or.inr c10), rfl⟩⟩) dX4_nodeAt_23
    · obtain ⟨j, hj0, rfl⟩ := nI_of c1
      have hjn : j < n := Nat.lt_of_not_le fun z => c10 (nI_le z (by omega))
      refine lv_aload_n hx hb dX4_nodeAt_13 rfl (lv_at hl 0 rfl) ?_
      refine q_getr hC hG cF4 i4 hs.1.1.1 1 (by decide) rfl hs.1.1.2.2.1 k23 dX4_nodeAt_14 ?_
      refine lv_iload_n hx hb dX4_nodeAt_17 rfl (lv_at hl 1 rfl) ?_
      refine q_aw (v := .ref (na b j)) hC hG (Or.inr hs.1.2.2.2.1.1) hs.1.2.2.2.1.2.1 (by omega) (by omega) (by rw [show rv (cM b n X M P) (b + 5) j = some (na b j) from hs.1.2.2.2.1.2.2 j (by omega)]; rfl) dX4_nodeAt_18 ?_
      refine lv_goto (tgt := 23) hx hb dX4_nodeAt_19 (by decide) ?_
      exact q_aret (v := (some (na b j))) hC hG hr (by first | exact Or.inl ⟨_, rfl⟩ | exact Or.inr ⟨_, rfl⟩) hlk (⟨rfl, Or.inl ⟨j, hjn, rfl, rfl⟩⟩) dX4_nodeAt_23

abbrev rmX4_isBelow : Room := { frames := 0, cells := 0, slots := 0, locals := 0 }
set_option maxHeartbeats 4000000 in
set_option maxRecDepth 100000 in
theorem k_X4_isBelow (l : Launch) (D : va_G) (cA : Nat → ClassId) (A : Nat → Prop) {Z : Mem} (x : Int32) (e0 : Nat) (h1e : 1 ≤ e0) (h2e : e0 < 2147483648) : mt l D cA A yX4_isBelow wsX4_isBelow rmX4_isBelow [.int x, .int (nI e0)] (Z) (fun w Y => w = some (.int (nI (m_in x (nI 0) (nI (e0 - 1))))) ∧ Y = Z) := by
  refine q_start (by decide) rfl (Nat.le_of_ble_eq_true rfl) (fun p e s m args below meth c H locs hC hr hlk hnm hG ls hl => ?_)
  have hl : lv_has ls 2 [(0, .int x), (1, .int (nI e0))] := hl
  have hx := hC.1.1
  have hb := hC.1.2.1
  have hts := hC.1.2.2.2.2
  refine lv_iload_n hx hb dX4_isBelow_0 rfl (lv_at hl 0 rfl) ?_
  refine lv_if_lt (tgt := 13) hx hb dX4_isBelow_1 (by decide) (fun c1 => ?_) (fun c1 => ?_)
  · refine n_iconst hC 0 dX4_isBelow_13 ?_
    exact q_zret (v := 0) hC hG hr hlk (by first | decide | omega) (⟨by rw [in_lo c1], rfl⟩) dX4_isBelow_14
  · refine lv_iload_n hx hb dX4_isBelow_4 rfl (lv_at hl 0 rfl) ?_
    refine lv_iload_n hx hb dX4_isBelow_5 rfl (lv_at hl 1 rfl) ?_
    refine lv_icmp_ge (tgt := 13) hx hb dX4_isBelow_6 (by decide) (fun c6 => ?_) (fun c6 => ?_)
    · refine n_iconst hC 0 dX4_isBelow_13 ?_
      exact q_zret (v := 0) hC hG hr hlk (by first | decide | omega) (⟨by rw [in_hi (by omega) (by omega) c6], rfl⟩) dX4_isBelow_14
    · refine n_iconst hC 1 dX4_isBelow_9 ?_
      refine lv_goto (tgt := 14) hx hb dX4_isBelow_10 (by decide) ?_
      exact q_zret (v := 1) hC hG hr hlk (by first | decide | omega) (⟨by rw [in_ok (by omega) c1 c6], rfl⟩) dX4_isBelow_14

abbrev rmX4_isEntry : Room := { frames := 1, cells := 0, slots := 0, locals := 21 }
set_option maxHeartbeats 4000000 in
set_option maxRecDepth 100000 in
theorem k_X4_isEntry (l : Launch) (D : va_G) (cA : Nat → ClassId) (A : Nat → Prop) {Z : Mem} (cl nu ki ra rb : Int32) : mt l D cA A yX4_isEntry wsX4_isEntry rmX4_isEntry [.int cl, .int nu, .int ki, .int ra, .int rb] (Z) (fun w Y => w = some (.int (nI (c_isE cl nu ki ra rb))) ∧ Y = Z) := by
  refine q_start (by decide) rfl (Nat.le_of_ble_eq_true rfl) (fun p e s m args below meth c H locs hC hr hlk hnm hG ls hl => ?_)
  have hl : lv_has ls 5 [(0, .int cl), (1, .int nu), (2, .int ki), (3, .int ra), (4, .int rb)] := hl
  have hx := hC.1.1
  have hb := hC.1.2.1
  have hts := hC.1.2.2.2.2
  refine lv_iload_n hx hb dX4_isEntry_0 rfl (lv_at hl 0 rfl) ?_
  refine n_iconst hC 4 dX4_isEntry_1 ?_
  refine q_callS (rest := []) (k_X4_isBelow l D cA A (Z := Z) cl 4 (by decide) (by decide)) hC hG 2 gX4_isEntry_X4_isBelow rfl (by decide +kernel) ⟨by decide, by decide⟩ rfl hl.1 rfl (by simp [Value.category]) dX4_isEntry_2 ⟨Nat.le_of_ble_eq_true rfl, Nat.le_of_ble_eq_true rfl⟩ (fun v Y H locs hq hG => ?_)
  obtain ⟨rfl, hqY⟩ := hq
  rw [hqY] at hG
  have q2 := m_in_le cl (nI 0) (nI 3)
  rw [show 4 - 1 = 3 from rfl]
  refine n_ifeq (tgt := 50) hC dX4_isEntry_5 (by decide) (by omega) (fun c5 => ?_) (fun c5 => ?_)
  · refine n_iconst hC 0 dX4_isEntry_50 ?_
    exact q_zret (v := 0) hC hG hr hlk (by first | decide | omega) (⟨by simp only [c_isE, if_pos c5], rfl⟩) dX4_isEntry_51
  · refine lv_iload_n hx hb dX4_isEntry_8 rfl (lv_at hl 1 rfl) ?_
    refine n_iconst hC 1 dX4_isEntry_9 ?_
    refine lv_icmp_lt (tgt := 50) hx hb dX4_isEntry_10 (by decide) (fun c10 => ?_) (fun c10 => ?_)
    · refine n_iconst hC 0 dX4_isEntry_50 ?_
      exact q_zret (v := 0) hC hG hr hlk (by first | decide | omega) (⟨by simp only [c_isE, if_neg c5, if_pos c10], rfl⟩) dX4_isEntry_51
    · refine lv_iload_n hx hb dX4_isEntry_13 rfl (lv_at hl 1 rfl) ?_
      refine lv_ldc (v := nI 1000000) hx hb hC.1.2.2.2.1 (hts (.constant RX4 110 (1000000)) (by decide +kernel)) dX4_isEntry_14 ?_
      refine lv_icmp_gt (tgt := 50) hx hb dX4_isEntry_16 (by decide) (fun c16 => ?_) (fun c16 => ?_)
      · refine n_iconst hC 0 dX4_isEntry_50 ?_
        exact q_zret (v := 0) hC hG hr hlk (by first | decide | omega) (⟨by simp only [c_isE, if_neg c5, if_neg c10, if_pos c16], rfl⟩) dX4_isEntry_51
      · refine lv_iload_n hx hb dX4_isEntry_19 rfl (lv_at hl 2 rfl) ?_
        refine n_iconst hC 3 dX4_isEntry_20 ?_
        refine q_callS (rest := []) (k_X4_isBelow l D cA A (Z := Z) ki 3 (by decide) (by decide)) hC hG 2 gX4_isEntry_X4_isBelow rfl (by decide +kernel) ⟨by decide, by decide⟩ rfl hl.1 rfl (by simp [Value.category]) dX4_isEntry_21 ⟨Nat.le_of_ble_eq_true rfl, Nat.le_of_ble_eq_true rfl⟩ (fun v Y H locs hq hG => ?_)
        obtain ⟨rfl, hqY⟩ := hq
        rw [hqY] at hG
        have q21 := m_in_le ki (nI 0) (nI 2)
        rw [show 3 - 1 = 2 from rfl]
        refine n_ifeq (tgt := 50) hC dX4_isEntry_24 (by decide) (by omega) (fun c24 => ?_) (fun c24 => ?_)
        · refine n_iconst hC 0 dX4_isEntry_50 ?_
          exact q_zret (v := 0) hC hG hr hlk (by first | decide | omega) (⟨by simp only [c_isE, if_neg c5, if_neg c10, if_neg c16, if_pos c24], rfl⟩) dX4_isEntry_51
        · refine lv_iload_n hx hb dX4_isEntry_27 rfl (lv_at hl 3 rfl) ?_
          refine n_bipush hC 8 (by decide) dX4_isEntry_28 ?_
          refine q_callS (rest := []) (k_X4_isBelow l D cA A (Z := Z) ra 8 (by decide) (by decide)) hC hG 2 gX4_isEntry_X4_isBelow rfl (by decide +kernel) ⟨by decide, by decide⟩ rfl hl.1 rfl (by simp [Value.category]) dX4_isEntry_30 ⟨Nat.le_of_ble_eq_true rfl, Nat.le_of_ble_eq_true rfl⟩ (fun v Y H locs hq hG => ?_)
          obtain ⟨rfl, hqY⟩ := hq
          rw [hqY] at hG
          have q30 := m_in_le ra (nI 0) (nI 7)
          rw [show 8 - 1 = 7 from rfl]
          refine n_ifeq (tgt := 50) hC dX4_isEntry_33 (by decide) (by omega) (fun c33 => ?_) (fun c33 => ?_)
          · refine n_iconst hC 0 dX4_isEntry_50 ?_
            exact q_zret (v := 0) hC hG hr hlk (by first | decide | omega) (⟨by simp only [c_isE, if_neg c5, if_neg c10, if_neg c16, if_neg c24, if_pos c33], rfl⟩) dX4_isEntry_51
          · refine lv_iload hx hb dX4_isEntry_36 (lv_at hl 4 rfl) ?_
            refine n_bipush hC 8 (by decide) dX4_isEntry_38 ?_
            refine q_callS (rest := []) (k_X4_isBelow l D cA A (Z := Z) rb 8 (by decide) (by decide)) hC hG 2 gX4_isEntry_X4_isBelow rfl (by decide +kernel) ⟨by decide, by decide⟩ rfl hl.1 rfl (by simp [Value.category]) dX4_isEntry_40 ⟨Nat.le_of_ble_eq_true rfl, Nat.le_of_ble_eq_true rfl⟩ (fun v Y H locs hq hG => ?_)
            obtain ⟨rfl, hqY⟩ := hq
            rw [hqY] at hG
            have q40 := m_in_le rb (nI 0) (nI 7)
            rw [show 8 - 1 = 7 from rfl]
            refine n_ifeq (tgt := 50) hC dX4_isEntry_43 (by decide) (by omega) (fun c43 => ?_) (fun c43 => ?_)
            · refine n_iconst hC 0 dX4_isEntry_50 ?_
              exact q_zret (v := 0) hC hG hr hlk (by first | decide | omega) (⟨by simp only [c_isE, if_neg c5, if_neg c10, if_neg c16, if_neg c24, if_neg c33, if_pos c43], rfl⟩) dX4_isEntry_51
            · refine n_iconst hC 1 dX4_isEntry_46 ?_
              refine lv_goto (tgt := 51) hx hb dX4_isEntry_47 (by decide) ?_
              exact q_zret (v := 1) hC hG hr hlk (by first | decide | omega) (⟨by simp only [c_isE, if_neg c5, if_neg c10, if_neg c16, if_neg c24, if_neg c33, if_neg c43], rfl⟩) dX4_isEntry_51

abbrev rmX4_request : Room := { frames := 4, cells := 7, slots := 143, locals := 110 }
set_option maxHeartbeats 4000000 in
set_option maxRecDepth 100000 in
theorem k_X4_request (l : Launch) (D : va_G) (cA : Nat → ClassId) (A : Nat → Prop) {b n f : Nat} {X : Mem} {M : MM} {P : Nat → Nat} (hs : Sd b n f X M) (hJ : J M) (hK : K n f M P) (nd cl nu ki ra rb va : Int32) : mt l D cA A yX4_request wsX4_request rmX4_request [.ref b, .int nd, .int cl, .int nu, .int ki, .int ra, .int rb, .int va] (cM b n X M P) (fun w Y => w = some (.int (m_request n M nd cl nu ki ra rb va).1) ∧ ∃ X1, Y = cM b n X1 (m_request n M nd cl nu ki ra rb va).2 (P) ∧ Sd b n f X1 (m_request n M nd cl nu ki ra rb va).2 ∧ go b n X X1) := by
  refine q_start (by decide) rfl (Nat.le_of_ble_eq_true rfl) (fun p e s m args below meth c H locs hC hr hlk hnm hG ls hl => ?_)
  have hl : lv_has ls 9 [(0, .ref b), (1, .int nd), (2, .int cl), (3, .int nu), (4, .int ki), (5, .int ra), (6, .int rb), (7, .int va)] := hl
  have hx := hC.1.1
  have hb := hC.1.2.1
  have hts := hC.1.2.2.2.2
  have i4 : ∀ w ∈ wsX40, w ∈ wsX4_request := by decide +kernel
  have i2 : ∀ w ∈ wsX20, w ∈ wsX4_request := by decide +kernel
  have hnf := g_nf hs
  have hB := hJ.1
  have hL := hJ.2.1
  have hE := hJ.2.2.1
  have hgo := go_rf b n X
  have h17 := hB.2
  have k46 := hts (.fieldLink RX4 46 "ViewStamps$Node" "log" "LViewStamps$Log;") (by decide +kernel)
  refine lv_aload_n hx hb dX4_request_0 rfl (lv_at hl 0 rfl) ?_
  refine lv_iload_n hx hb dX4_request_1 rfl (lv_at hl 1 rfl) ?_
  refine q_callV (rest := []) (k_X4_nodeAt l D cA A hs hJ nd) hC hG cF4 hs.1.1.1 1 gX4_request_X4_nodeAt rfl (by decide +kernel) ⟨by decide, by decide⟩ rfl hl.1 rfl (by simp [Value.category]) dX4_request_2 ⟨by decide, by decide⟩ (fun v Y H locs hq hG => ?_)
  rcases hq with ⟨rfl, ⟨i, hi, rfl, rfl⟩ | ⟨hq0, rfl⟩⟩
  · have t_i : tN (nI i) = i := tN_nI (by omega)
    have y_i := isNode_y hi (by omega)
    refine lv_astore (lv' := [(8, .ref (na b i)), (0, .ref b), (1, .int (nI i)), (2, .int cl), (3, .int nu), (4, .int ki), (5, .int ra), (6, .int rb), (7, .int va)]) hx hb dX4_request_5 hl (by decide) rfl (fun ls hl => ?_)
    refine lv_aload hx hb dX4_request_7 (lv_at hl 0 rfl) ?_
    refine lv_ifnull hx hb dX4_request_9 ?_
    refine lv_iload_n hx hb dX4_request_12 rfl (lv_at hl 3 rfl) ?_
    refine lv_iload_n hx hb dX4_request_13 rfl (lv_at hl 4 rfl) ?_
    refine lv_iload hx hb dX4_request_14 (lv_at hl 5 rfl) ?_
    refine lv_iload hx hb dX4_request_16 (lv_at hl 6 rfl) ?_
    refine lv_iload hx hb dX4_request_18 (lv_at hl 7 rfl) ?_
    refine q_callS (rest := []) (k_X4_isEntry l D cA A cl nu ki ra rb) hC hG 5 gX4_request_X4_isEntry rfl (by decide +kernel) ⟨by decide, by decide⟩ rfl hl.1 rfl (by simp [Value.category]) dX4_request_20 ⟨by decide, by decide⟩ (fun v Y H locs hq hG => ?_)
    obtain ⟨rfl, rfl⟩ := hq
    have q20 := c_isE_le cl nu ki ra rb
    refine n_ifne (tgt := 29) hC dX4_request_23 (by decide) (by omega) (fun c23 => ?_) (fun c23 => ?_)
    · obtain ⟨ci, x0, k0, a0, b0, hci, hx0, hx1, hk0, ha0, hb0, rfl, rfl, rfl, rfl, rfl⟩ := isE_yes c23
      obtain ⟨v0, hv0, rfl⟩ : ∃ v0 : Nat, v0 < 4294967296 ∧ va = nI v0 := ⟨tN va, tN_lt va, (nI_tN va).symm⟩
      have hrq := req_yes (M := M) hi (by omega) hci hx0 hx1 hk0 ha0 hb0 hv0
      refine lv_aload hx hb dX4_request_29 (lv_at hl 0 rfl) ?_
      refine q_callV (rest := []) (k_X2_leads l D cA A hs hJ (i := i) (by omega)) hC hG cF2 (g_kn hs (by omega)) 0 gX4_request_X2_leads rfl (by decide +kernel) ⟨by decide, by decide⟩ rfl hl.1 rfl (by simp [Value.category]) dX4_request_31 ⟨by decide, by decide⟩ (fun v Y H locs hq hG => ?_)
      obtain ⟨rfl, rfl⟩ := hq
      have q31 := c_leads_le n M i
      refine n_ifne (tgt := 40) hC dX4_request_34 (by decide) (by omega) (fun c34 => ?_) (fun c34 => ?_)
      · have hLi := hL i (by omega)
        refine lv_aload hx hb dX4_request_40 (lv_at hl 0 rfl) ?_
        obtain ⟨lgn1, hlgn1a, hlgn1⟩ := hs.2.2.2.1 i (by omega)
        have hLlgn1 := hL i (by omega)
        refine q_getr hC hG cF2 i2 (g_kn hs (by omega)) 12 (by decide) rfl hlgn1a k46 dX4_request_42 ?_
        refine lv_iload_n hx hb dX4_request_45 rfl (lv_at hl 3 rfl) ?_
        refine lv_iload_n hx hb dX4_request_46 rfl (lv_at hl 4 rfl) ?_
        refine q_callV (rest := []) (k_X1_answers l D cA A hs hJ (g0 := i) hlgn1 (by omega) ci x0 (by omega) (by omega)) hC hG cF1 hlgn1.1 2 gX4_request_X1_answers rfl (by decide +kernel) ⟨by decide, by decide⟩ rfl hl.1 rfl (by simp [Value.category]) dX4_request_47 ⟨by decide, by decide⟩ (fun v Y H locs hq hG => ?_)
        obtain ⟨rfl, rfl⟩ := hq
        have q47 := c_ans_le M i ci x0
        refine n_ifeq (tgt := 55) hC dX4_request_50 (by decide) (by omega) (fun c50 => ?_) (fun c50 => ?_)
        · refine lv_aload hx hb dX4_request_55 (lv_at hl 0 rfl) ?_
          obtain ⟨lgn2, hlgn2a, hlgn2⟩ := hs.2.2.2.1 i (by omega)
          have hLlgn2 := hL i (by omega)
          refine q_getr hC hG cF2 i2 (g_kn hs (by omega)) 12 (by decide) rfl hlgn2a k46 dX4_request_57 ?_
          refine q_callV (rest := []) (k_X1_size l D cA A hs hlgn2 hLlgn2.1) hC hG cF1 hlgn2.1 0 gX4_request_X1_size rfl (by decide +kernel) ⟨by decide, by decide⟩ rfl hl.1 rfl (by simp [Value.category]) dX4_request_60 ⟨by decide, by decide⟩ (fun v Y H locs hq hG => ?_)
          obtain ⟨rfl, rfl⟩ := hq
          refine n_bipush hC 16 (by decide) dX4_request_63 ?_
          refine n_lt (tgt := 71) hC dX4_request_65 (by decide) (by omega) (by omega) (fun c65 => ?_) (fun c65 => ?_)
          · have c65n := Nat.not_le.mpr c65
            refine lv_aload hx hb dX4_request_71 (lv_at hl 0 rfl) ?_
            refine lv_aload hx hb dX4_request_73 (lv_at hl 0 rfl) ?_
            obtain ⟨lgn3, hlgn3a, hlgn3⟩ := hs.2.2.2.1 i (by omega)
            have hLlgn3 := hL i (by omega)
            refine q_getr hC hG cF2 i2 (g_kn hs (by omega)) 12 (by decide) rfl hlgn3a k46 dX4_request_75 ?_
            refine lv_iload_n hx hb dX4_request_78 rfl (lv_at hl 3 rfl) ?_
            refine lv_iload_n hx hb dX4_request_79 rfl (lv_at hl 4 rfl) ?_
            refine lv_iload hx hb dX4_request_80 (lv_at hl 5 rfl) ?_
            refine lv_iload hx hb dX4_request_82 (lv_at hl 6 rfl) ?_
            refine lv_iload hx hb dX4_request_84 (lv_at hl 7 rfl) ?_
            refine lv_iload hx hb dX4_request_86 (lv_at hl 8 rfl) ?_
            refine q_callV (rest := [.ref (na b i)]) (k_X1_with l D cA A hs hJ (g0 := i) hlgn3 (by omega) ci x0 k0 a0 b0 v0 (by omega)) hC hG cF1 hlgn3.1 6 gX4_request_X1_with rfl (by decide +kernel) ⟨by decide, by decide⟩ rfl hl.1 rfl (by simp [Value.category]) dX4_request_88 ⟨by decide, by decide⟩ (fun v Y H locs hq hG => ?_)
            obtain ⟨Xn, qn, rfl, rfl, hs, hgn, hln⟩ := hq
            have hgo := go_tr hgo hgn
            refine q_putr hC hG cF2 i2 (g_kn hs (by omega)) 12 (by decide) rfl k46 (Or.inl rfl) rfl rfl dX4_request_91 (fun H locs hG => ?_)
            rw [cM_wR] at hG
            obtain ⟨ec, hs, hge, hJ⟩ := c_ent (i := i) P hs hJ (by omega) (by omega) (by omega) (by omega) (by omega) (by omega) (by omega) hln
            rw [ec] at hG
            have hgo := go_tr hgo hge
            have hB := hJ.1
            have hL := hJ.2.1
            have hE := hJ.2.2.1
            refine lv_aload hx hb dX4_request_94 (lv_at hl 0 rfl) ?_
            refine n_iconst hC 1 dX4_request_96 ?_
            refine n_iconst hC 0 dX4_request_97 ?_
            refine q_callV (rest := []) (k_X2_postToAll l D cA A hs hJ (i := i) (by omega) 1 0 (by omega) (by omega)) hC hG cF2 (g_kn hs (by omega)) 2 gX4_request_X2_postToAll rfl (by decide +kernel) ⟨by decide, by decide⟩ rfl hl.1 rfl (by simp [Value.category]) dX4_request_98 ⟨by decide, by decide⟩ (fun v Y H locs hq hG => ?_)
            obtain ⟨rfl, Xp, rfl, hs, hgp⟩ := hq
            have hgo := go_tr hgo hgp
            have hJ := J_pa (i := i) (k := 1) (v := (m_ent M i ci x0 k0 a0 b0 v0) 6 i) (c := 0) hJ (by omega) (by omega) (hJ.1.1 6 _ rfl) (by omega) n (by omega)
            have hB := hJ.1
            have hL := hJ.2.1
            have hE := hJ.2.2.1
            refine lv_aload hx hb dX4_request_101 (lv_at hl 0 rfl) ?_
            obtain ⟨lgn4, hlgn4a, hlgn4⟩ := hs.2.2.2.1 i (by omega)
            have hLlgn4 := hL i (by omega)
            refine q_getr hC hG cF2 i2 (g_kn hs (by omega)) 12 (by decide) rfl hlgn4a k46 dX4_request_103 ?_
            refine q_callV (rest := []) (k_X1_size l D cA A hs hlgn4 hLlgn4.1) hC hG cF1 hlgn4.1 0 gX4_request_X1_size rfl (by decide +kernel) ⟨by decide, by decide⟩ rfl hl.1 rfl (by simp [Value.category]) dX4_request_106 ⟨by decide, by decide⟩ (fun v Y H locs hq hG => ?_)
            obtain ⟨rfl, rfl⟩ := hq
            exact q_iret (v := (nI ((m_pa (m_ent M i ci x0 k0 a0 b0 v0) i 1 ((m_ent M i ci x0 k0 a0 b0 v0) 6 i) 0 n) 3 i))) hC hG hr hlk (by have e6 : m_ent M i ci x0 k0 a0 b0 v0 6 i = M 6 i := m_ent_o (by decide) (by omega); have e : m_request n M (nI i) (nI ci) (nI x0) (nI k0) (nI a0) (nI b0) (nI v0) = (nI ((m_pa (m_ent M i ci x0 k0 a0 b0 v0) i 1 ((m_ent M i ci x0 k0 a0 b0 v0) 6 i) 0 n) 3 i), m_pa (m_ent M i ci x0 k0 a0 b0 v0) i 1 ((m_ent M i ci x0 k0 a0 b0 v0) 6 i) 0 n) := (by rw [hrq, req2_y c34, if_neg (ans_n c50), if_neg (by omega), e6]); rw [e]; exact ⟨rfl, Xp, rfl, hs, hgo⟩) dX4_request_109 (h1 := by decide) (h2 := by decide)
          · have c65n := Nat.not_lt.mpr c65
            refine lv_bipush (v := -4) hx hb dX4_request_68 (by decide) ?_
            exact q_iret (v := (-4)) hC hG hr hlk (by have e : m_request n M (nI i) (nI ci) (nI x0) (nI k0) (nI a0) (nI b0) (nI v0) = (-4, M) := (by rw [hrq, req2_y c34, if_neg (ans_n c50), if_pos (by omega)]); rw [e]; exact ⟨rfl, X, rfl, hs, hgo⟩) dX4_request_70 (h1 := by decide) (h2 := by decide)
        · refine n_iconst hC 0 dX4_request_53 ?_
          exact q_iret (v := (nI 0)) hC hG hr hlk (by have e : m_request n M (nI i) (nI ci) (nI x0) (nI k0) (nI a0) (nI b0) (nI v0) = (nI 0, M) := (by rw [hrq, req2_y c34, if_pos (ans_y c50)]); rw [e]; exact ⟨rfl, X, rfl, hs, hgo⟩) dX4_request_54 (h1 := by decide) (h2 := by decide)
      · refine lv_bipush (v := -3) hx hb dX4_request_37 (by decide) ?_
        exact q_iret (v := (-3)) hC hG hr hlk (by have e : m_request n M (nI i) (nI ci) (nI x0) (nI k0) (nI a0) (nI b0) (nI v0) = (-3, M) := (by exact hrq.trans (req2_no c34)); rw [e]; exact ⟨rfl, X, rfl, hs, hgo⟩) dX4_request_39 (h1 := by decide) (h2 := by decide)
    · refine lv_bipush (v := -2) hx hb dX4_request_26 (by decide) ?_
      exact q_iret (v := (-2)) hC hG hr hlk (by have e : m_request n M (nI i) cl nu ki ra rb va = (-2, M) := (by exact req_no2 y_i c23); rw [e]; exact ⟨rfl, X, rfl, hs, hgo⟩) dX4_request_28 (h1 := by decide) (h2 := by decide)
  · refine lv_astoreN (lv' := [(8, .null), (0, .ref b), (1, .int nd), (2, .int cl), (3, .int nu), (4, .int ki), (5, .int ra), (6, .int rb), (7, .int va)]) hx hb dX4_request_5 hl (by decide) rfl (fun ls hl => ?_)
    refine lv_aloadN hx hb dX4_request_7 (lv_at hl 0 rfl) ?_
    refine lv_ifnullN (tgt := 26) hx hb dX4_request_9 (by decide) ?_
    refine lv_bipush (v := -2) hx hb dX4_request_26 (by decide) ?_
    exact q_iret (v := (-2)) hC hG hr hlk (by have e : m_request n M nd cl nu ki ra rb va = (-2, M) := (by exact req_no1 hq0); rw [e]; exact ⟨rfl, X, rfl, hs, hgo⟩) dX4_request_28 (h1 := by decide) (h2 := by decide)

abbrev rmX4_lineBetween : Room := { frames := 1, cells := 0, slots := 0, locals := 30 }
set_option maxHeartbeats 4000000 in
set_option maxRecDepth 100000 in
theorem k_X4_lineBetween (l : Launch) (D : va_G) (cA : Nat → ClassId) (A : Nat → Prop) {b n f : Nat} {X : Mem} {M : MM} {P : Nat → Nat} (hs : Sd b n f X M) (hJ : J M) (i j : Nat) (hi : i < n) (hj : j < n) : mt l D cA A yX4_lineBetween wsX4_lineBetween rmX4_lineBetween [.ref b, .int (nI i), .int (nI j)] (cM b n X M P) (fun w Y => w = some (.int (nI (m_les i j * n + m_gre i j))) ∧ Y = cM b n X M P) := by
  refine q_start (by decide) rfl (Nat.le_of_ble_eq_true rfl) (fun p e s m args below meth c H locs hC hr hlk hnm hG ls hl => ?_)
  have hl : lv_has ls 3 [(0, .ref b), (1, .int (nI i)), (2, .int (nI j))] := hl
  have hx := hC.1.1
  have hb := hC.1.2.1
  have hts := hC.1.2.2.2.2
  have i4 : ∀ w ∈ wsX40, w ∈ wsX4_lineBetween := by decide +kernel
  have hnf := g_nf hs
  have hB := hJ.1
  have hL := hJ.2.1
  have hE := hJ.2.2.1
  have k23 := hts (.fieldLink RX4 23 "ViewStamps" "nodes" "[LViewStamps$Node;") (by decide +kernel)
  refine lv_iload_n hx hb dX4_lineBetween_0 rfl (lv_at hl 1 rfl) ?_
  refine lv_iload_n hx hb dX4_lineBetween_1 rfl (lv_at hl 2 rfl) ?_
  refine n_min hC hl.1 (hts (.methodLink RX4 151 Lib.Math.min.name) (by decide +kernel)) (hts (.static Lib.Math.min.name) (by decide +kernel)) (hts (.initialized "java/lang/Math") (by decide +kernel)) (hts (.code Lib.Math.min.name Lib.Math.min.code 2 (some .int)) (by decide +kernel)) (by decide) (by simp [Value.category]) (by first | exact Nat.zero_le _ | decide | (simp only [rmX4_lineBetween]; omega)) (by first | exact Nat.zero_le _ | decide | (simp only [rmX4_lineBetween]; omega)) (by omega) (by omega) dX4_lineBetween_2 ?_
  have q2 := m_les_le i j
  refine lv_aload_n hx hb dX4_lineBetween_5 rfl (lv_at hl 0 rfl) ?_
  refine q_getr hC hG cF4 i4 hs.1.1.1 1 (by decide) rfl hs.1.1.2.2.1 k23 dX4_lineBetween_6 ?_
  refine q_alen hC hG (k := 10) hs.1.2.2.2.1.1 (by decide) (by decide) hs.1.2.2.2.1.2.1 dX4_lineBetween_9 ?_
  refine n_imul hC dX4_lineBetween_10 ?_
  refine lv_iload_n hx hb dX4_lineBetween_11 rfl (lv_at hl 1 rfl) ?_
  refine lv_iload_n hx hb dX4_lineBetween_12 rfl (lv_at hl 2 rfl) ?_
  refine n_max hC hl.1 (hts (.methodLink RX4 174 Lib.Math.max.name) (by decide +kernel)) (hts (.static Lib.Math.max.name) (by decide +kernel)) (hts (.initialized "java/lang/Math") (by decide +kernel)) (hts (.code Lib.Math.max.name Lib.Math.max.code 2 (some .int)) (by decide +kernel)) (by decide) (by simp [Value.category]) (by first | exact Nat.zero_le _ | decide | (simp only [rmX4_lineBetween]; omega)) (by first | exact Nat.zero_le _ | decide | (simp only [rmX4_lineBetween]; omega)) (by omega) (by omega) dX4_lineBetween_13 ?_
  have q13 : m_gre i j < 2147483648 := m_gre_le (by omega) (by omega)
  refine n_iadd hC dX4_lineBetween_16 ?_
  exact q_iret (v := (nI (((m_les i j) * n) + (m_gre i j)))) hC hG hr hlk (⟨rfl, rfl⟩) dX4_lineBetween_17

abbrev rmX4_deliver : Room := { frames := 7, cells := 11, slots := 88, locals := 163 }
set_option maxHeartbeats 4000000 in
set_option maxRecDepth 100000 in
theorem k_X4_deliver (l : Launch) (D : va_G) (cA : Nat → ClassId) (A : Nat → Prop) {b n f : Nat} {X : Mem} {M : MM} {P : Nat → Nat} (hs : Sd b n f X M) (hJ : J M) (hK : K n f M P) (lt : Int32) : mt l D cA A yX4_deliver wsX4_deliver rmX4_deliver [.ref b, .int lt] (cM b n X M P) (fun w Y => w = some (.int (m_deliver n f M lt).1) ∧ ∃ X1, Y = cM b n X1 (m_deliver n f M lt).2 (P) ∧ Sd b n f X1 (m_deliver n f M lt).2 ∧ go b n X X1) := by
  refine q_start (by decide) rfl (Nat.le_of_ble_eq_true rfl) (fun p e s m args below meth c H locs hC hr hlk hnm hG ls hl => ?_)
  have hl : lv_has ls 3 [(0, .ref b), (1, .int lt)] := hl
  have hx := hC.1.1
  have hb := hC.1.2.1
  have hts := hC.1.2.2.2.2
  have i4 : ∀ w ∈ wsX40, w ∈ wsX4_deliver := by decide +kernel
  have i0 : ∀ w ∈ wsX00, w ∈ wsX4_deliver := by decide +kernel
  have hnf := g_nf hs
  have hB := hJ.1
  have hL := hJ.2.1
  have hE := hJ.2.2.1
  have hgo := go_rf b n X
  have h17 := hB.2
  have k15 := hts (.fieldLink RX4 15 "ViewStamps" "pool" "LViewStamps$Pool;") (by decide +kernel)
  have k23 := hts (.fieldLink RX4 23 "ViewStamps" "nodes" "[LViewStamps$Node;") (by decide +kernel)
  have k30 := hts (.fieldLink RX4 30 "ViewStamps" "cutLines" "[Z") (by decide +kernel)
  have k70 := hts (.fieldLink RX4 70 "ViewStamps$Letter" "from" "I") (by decide +kernel)
  have k76 := hts (.fieldLink RX4 76 "ViewStamps$Letter" "to" "I") (by decide +kernel)
  refine lv_aload_n hx hb dX4_deliver_0 rfl (lv_at hl 0 rfl) ?_
  refine q_getr hC hG cF4 i4 hs.1.1.1 0 (by decide) rfl hs.1.1.2.1 k15 dX4_deliver_1 ?_
  refine lv_iload_n hx hb dX4_deliver_4 rfl (lv_at hl 1 rfl) ?_
  refine q_callV (rest := []) (k_X3_standing l D cA A hs hJ lt) hC hG cF3 hs.1.2.2.1.1 1 gX4_deliver_X3_standing rfl (by decide +kernel) ⟨by decide, by decide⟩ rfl hl.1 rfl (by simp [Value.category]) dX4_deliver_5 ⟨by decide, by decide⟩ (fun v Y H locs hq hG => ?_)
  rcases hq with ⟨rfl, ⟨j, q, hjL, rfl, hq1, hq2, hj24, rfl⟩ | ⟨hq0, rfl⟩⟩
  · refine lv_astore_n (lv' := [(2, .ref q), (0, .ref b), (1, .int (nI j))]) hx hb dX4_deliver_8 rfl hl (by decide) rfl (fun ls hl => ?_)
    refine lv_aload_n hx hb dX4_deliver_9 rfl (lv_at hl 0 rfl) ?_
    refine lv_ifnonnull (tgt := 16) hx hb dX4_deliver_10 (by decide) ?_
    obtain ⟨k1, k2, k3, k4, k5, k6, k7⟩ := hK.2 j hjL
    have t_j : tN (nI j) = j := tN_nI (by omega)
    have y_j := there_y h17 hjL hj24
    refine lv_aload_n hx hb dX4_deliver_16 rfl (lv_at hl 1 rfl) ?_
    refine q_getr hC hG cF4 i4 hs.1.1.1 2 (by decide) rfl hs.1.1.2.2.2 k30 dX4_deliver_17 ?_
    refine lv_aload_n hx hb dX4_deliver_20 rfl (lv_at hl 1 rfl) ?_
    refine lv_aload_n hx hb dX4_deliver_21 rfl (lv_at hl 0 rfl) ?_
    refine q_gw (w := M 19 j) hC hG cF0 i0 hq2.1.1 0 (by decide) rfl ((g_iv hs (Or.inl hq2.1.1) 0).trans hq2.1.2.1) k70 dX4_deliver_22 ?_
    have bl0 := hB.1 19 j rfl
    refine lv_aload_n hx hb dX4_deliver_25 rfl (lv_at hl 0 rfl) ?_
    refine q_gw (w := M 20 j) hC hG cF0 i0 hq2.1.1 1 (by decide) rfl ((g_iv hs (Or.inl hq2.1.1) 1).trans hq2.1.2.2.1) k76 dX4_deliver_26 ?_
    have bl1 := hB.1 20 j rfl
    refine q_callV (rest := [.ref (b + 6 + 5 * n)]) (k_X4_lineBetween l D cA A hs hJ (M 19 j) (M 20 j) (by omega) (by omega)) hC hG cF4 hs.1.1.1 2 gX4_deliver_X4_lineBetween rfl (by decide +kernel) ⟨by decide, by decide⟩ rfl hl.1 rfl (by simp [Value.category]) dX4_deliver_29 ⟨by decide, by decide⟩ (fun v Y H locs hq hG => ?_)
    obtain ⟨rfl, rfl⟩ := hq
    refine q_zw (w := M 16 (5 * (M 19 j) + (M 20 j))) hC hG hs.1.2.2.2.2.1.1 hs.1.2.2.2.2.1.2 (line_lt (by omega) (by omega)) (nn_lt hnf).1 (cut_at P hs (by omega) (by omega) (by omega)) dX4_deliver_32 ?_
    have b16 := hB.1 16 (5 * (M 19 j) + (M 20 j)) rfl
    refine n_ifeq (tgt := 39) hC dX4_deliver_33 (by decide) (by omega) (fun c33 => ?_) (fun c33 => ?_)
    · refine lv_aload_n hx hb dX4_deliver_39 rfl (lv_at hl 1 rfl) ?_
      refine q_getr hC hG cF4 i4 hs.1.1.1 1 (by decide) rfl hs.1.1.2.2.1 k23 dX4_deliver_40 ?_
      refine lv_aload_n hx hb dX4_deliver_43 rfl (lv_at hl 0 rfl) ?_
      refine q_gw (w := M 20 j) hC hG cF0 i0 hq2.1.1 1 (by decide) rfl ((g_iv hs (Or.inl hq2.1.1) 1).trans hq2.1.2.2.1) k76 dX4_deliver_44 ?_
      have bl1 := hB.1 20 j rfl
      refine q_aw (v := .ref (na b (M 20 j))) hC hG (Or.inr hs.1.2.2.2.1.1) hs.1.2.2.2.1.2.1 (by omega) (by omega) (by rw [show rv (cM b n X M P) (b + 5) (M 20 j) = some (na b (M 20 j)) from hs.1.2.2.2.1.2.2 (M 20 j) (by omega)]; rfl) dX4_deliver_47 ?_
      refine lv_aload_n hx hb dX4_deliver_48 rfl (lv_at hl 0 rfl) ?_
      refine q_callV (rest := []) (k_X2_hear l D cA A hs hJ (i := M 20 j) (by omega) hq2 hjL rfl hK) hC hG cF2 (g_kn hs (by omega)) 1 gX4_deliver_X2_hear rfl (by decide +kernel) ⟨by decide, by decide⟩ rfl hl.1 rfl (by simp [Value.category]) dX4_deliver_49 ⟨by decide, by decide⟩ (fun v Y H locs hq hG => ?_)
      obtain ⟨rfl, Xh, rfl, hs, hgh⟩ := hq
      have hgo := go_tr hgo hgh
      have hz1 := m_does_le n f M j
      refine n_ifeq (tgt := 59) hC dX4_deliver_52 (by decide) (by omega) (fun c52 => ?_) (fun c52 => ?_)
      · refine n_iconst hC 0 dX4_deliver_59 ?_
        exact q_iret (v := (nI 0)) hC hG hr hlk (by have e : m_deliver n f M (nI j) = (nI 0, (m_does n f M j).2) := (by rw [m_deliver, if_neg y_j, t_j, if_pos c33, if_pos c52]); rw [e]; exact ⟨rfl, Xh, rfl, hs, hgo⟩) dX4_deliver_60 (h1 := by decide) (h2 := by decide)
      · refine n_iconst hC 1 dX4_deliver_55 ?_
        refine lv_goto (tgt := 60) hx hb dX4_deliver_56 (by decide) ?_
        exact q_iret (v := (nI 1)) hC hG hr hlk (by have e : m_deliver n f M (nI j) = (nI 1, (m_does n f M j).2) := (by rw [m_deliver, if_neg y_j, t_j, if_pos c33, if_neg c52]); rw [e]; exact ⟨rfl, Xh, rfl, hs, hgo⟩) dX4_deliver_60 (h1 := by decide) (h2 := by decide)
    · refine lv_bipush (v := -3) hx hb dX4_deliver_36 (by decide) ?_
      exact q_iret (v := (-3)) hC hG hr hlk (by have e : m_deliver n f M (nI j) = (-3, M) := (by rw [m_deliver, if_neg y_j, t_j, if_neg c33]); rw [e]; exact ⟨rfl, X, rfl, hs, hgo⟩) dX4_deliver_38 (h1 := by decide) (h2 := by decide)
  · refine lv_astore_nN (lv' := [(2, .null), (0, .ref b), (1, .int lt)]) hx hb dX4_deliver_8 rfl hl (by decide) rfl (fun ls hl => ?_)
    refine lv_aload_nN hx hb dX4_deliver_9 rfl (lv_at hl 0 rfl) ?_
    refine lv_ifnonnullN hx hb dX4_deliver_10 ?_
    refine lv_bipush (v := -2) hx hb dX4_deliver_13 (by decide) ?_
    exact q_iret (v := (-2)) hC hG hr hlk (by have e : m_deliver n f M lt = (-2, M) := (by rw [m_deliver, if_pos hq0]); rw [e]; exact ⟨rfl, X, rfl, hs, hgo⟩) dX4_deliver_15 (h1 := by decide) (h2 := by decide)

abbrev rmX4_drop : Room := { frames := 2, cells := 0, slots := 0, locals := 43 }
set_option maxHeartbeats 4000000 in
set_option maxRecDepth 100000 in
theorem k_X4_drop (l : Launch) (D : va_G) (cA : Nat → ClassId) (A : Nat → Prop) {b n f : Nat} {X : Mem} {M : MM} {P : Nat → Nat} (hs : Sd b n f X M) (hJ : J M) (hK : K n f M P) (lt : Int32) : mt l D cA A yX4_drop wsX4_drop rmX4_drop [.ref b, .int lt] (cM b n X M P) (fun w Y => w = some (.int (m_drop M lt).1) ∧ ∃ X1, Y = cM b n X1 (m_drop M lt).2 (P) ∧ Sd b n f X1 (m_drop M lt).2 ∧ go b n X X1) := by
  refine q_start (by decide) rfl (Nat.le_of_ble_eq_true rfl) (fun p e s m args below meth c H locs hC hr hlk hnm hG ls hl => ?_)
  have hl : lv_has ls 3 [(0, .ref b), (1, .int lt)] := hl
  have hx := hC.1.1
  have hb := hC.1.2.1
  have hts := hC.1.2.2.2.2
  have i4 : ∀ w ∈ wsX40, w ∈ wsX4_drop := by decide +kernel
  have i0 : ∀ w ∈ wsX00, w ∈ wsX4_drop := by decide +kernel
  have hnf := g_nf hs
  have hB := hJ.1
  have hL := hJ.2.1
  have hE := hJ.2.2.1
  have hgo := go_rf b n X
  have h17 := hB.2
  have k15 := hts (.fieldLink RX4 15 "ViewStamps" "pool" "LViewStamps$Pool;") (by decide +kernel)
  have k87 := hts (.fieldLink RX4 87 "ViewStamps$Letter" "dropped" "Z") (by decide +kernel)
  refine lv_aload_n hx hb dX4_drop_0 rfl (lv_at hl 0 rfl) ?_
  refine q_getr hC hG cF4 i4 hs.1.1.1 0 (by decide) rfl hs.1.1.2.1 k15 dX4_drop_1 ?_
  refine lv_iload_n hx hb dX4_drop_4 rfl (lv_at hl 1 rfl) ?_
  refine q_callV (rest := []) (k_X3_standing l D cA A hs hJ lt) hC hG cF3 hs.1.2.2.1.1 1 gX4_drop_X3_standing rfl (by decide +kernel) ⟨by decide, by decide⟩ rfl hl.1 rfl (by simp [Value.category]) dX4_drop_5 ⟨Nat.le_of_ble_eq_true rfl, Nat.le_of_ble_eq_true rfl⟩ (fun v Y H locs hq hG => ?_)
  rcases hq with ⟨rfl, ⟨j, q, hjL, rfl, hq1, hq2, hj24, rfl⟩ | ⟨hq0, rfl⟩⟩
  · refine lv_astore_n (lv' := [(2, .ref q), (0, .ref b), (1, .int (nI j))]) hx hb dX4_drop_8 rfl hl (by decide) rfl (fun ls hl => ?_)
    refine lv_aload_n hx hb dX4_drop_9 rfl (lv_at hl 0 rfl) ?_
    refine lv_ifnonnull (tgt := 16) hx hb dX4_drop_10 (by decide) ?_
    refine lv_aload_n hx hb dX4_drop_16 rfl (lv_at hl 0 rfl) ?_
    refine n_iconst hC 1 dX4_drop_17 ?_
    refine q_puti hC hG cF0 i0 hq2.1.1 7 (by decide) rfl k87 (Or.inl rfl) rfl (by first | rfl | decide) dX4_drop_18 (fun H locs hG => ?_)
    rw [cM_wI _ _ _ _ _ (g_out hs (Or.inl hq2.1.1)).1 (g_out hs (Or.inl hq2.1.1)).2, cM_24 (by omega) _ _ _ j 1] at hG
    obtain ⟨hs, hgd⟩ := Sd_drop (v := 1) hs hjL hq1
    have hgo := go_tr hgo hgd
    refine n_iconst hC 1 dX4_drop_21 ?_
    exact q_iret (v := (nI 1)) hC hG hr hlk (by have e : m_drop M (nI j) = (nI 1, up2 M 24 j 1) := (by rw [m_drop, if_neg (there_y h17 hjL hj24), tN_nI (by omega)]); rw [e]; exact ⟨rfl, (wI X q 7 1), rfl, hs, hgo⟩) dX4_drop_22
  · refine lv_astore_nN (lv' := [(2, .null), (0, .ref b), (1, .int lt)]) hx hb dX4_drop_8 rfl hl (by decide) rfl (fun ls hl => ?_)
    refine lv_aload_nN hx hb dX4_drop_9 rfl (lv_at hl 0 rfl) ?_
    refine lv_ifnonnullN hx hb dX4_drop_10 ?_
    refine lv_bipush (v := -2) hx hb dX4_drop_13 (by decide) ?_
    exact q_iret (v := (-2)) hC hG hr hlk (by have e : m_drop M lt = (-2, M) := (by rw [m_drop, if_pos hq0]); rw [e]; exact ⟨rfl, X, rfl, hs, hgo⟩) dX4_drop_15

abbrev rmX4_cut : Room := { frames := 2, cells := 0, slots := 0, locals := 52 }
set_option maxHeartbeats 4000000 in
set_option maxRecDepth 100000 in
theorem k_X4_cut (l : Launch) (D : va_G) (cA : Nat → ClassId) (A : Nat → Prop) {b n f : Nat} {X : Mem} {M : MM} {P : Nat → Nat} (hs : Sd b n f X M) (hJ : J M) (hK : K n f M P) (ci cj : Int32) (on : Nat) (hon : on ≤ 1) : mt l D cA A yX4_cut wsX4_cut rmX4_cut [.ref b, .int ci, .int cj, .int (nI on)] (cM b n X M P) (fun w Y => w = some (.int (m_cut n M ci cj on).1) ∧ ∃ X1, Y = cM b n X1 (m_cut n M ci cj on).2 (P) ∧ Sd b n f X1 (m_cut n M ci cj on).2 ∧ go b n X X1) := by
  refine q_start (by decide) rfl (Nat.le_of_ble_eq_true rfl) (fun p e s m args below meth c H locs hC hr hlk hnm hG ls hl => ?_)
  have hl : lv_has ls 6 [(0, .ref b), (1, .int ci), (2, .int cj), (3, .int (nI on))] := hl
  have hx := hC.1.1
  have hb := hC.1.2.1
  have hts := hC.1.2.2.2.2
  have i4 : ∀ w ∈ wsX40, w ∈ wsX4_cut := by decide +kernel
  have hnf := g_nf hs
  have hB := hJ.1
  have hL := hJ.2.1
  have hE := hJ.2.2.1
  have hgo := go_rf b n X
  have h17 := hB.2
  have k30 := hts (.fieldLink RX4 30 "ViewStamps" "cutLines" "[Z") (by decide +kernel)
  refine lv_aload_n hx hb dX4_cut_0 rfl (lv_at hl 0 rfl) ?_
  refine lv_iload_n hx hb dX4_cut_1 rfl (lv_at hl 1 rfl) ?_
  refine q_callV (rest := []) (k_X4_nodeAt l D cA A hs hJ ci) hC hG cF4 hs.1.1.1 1 gX4_cut_X4_nodeAt rfl (by decide +kernel) ⟨by decide, by decide⟩ rfl hl.1 rfl (by simp [Value.category]) dX4_cut_2 ⟨Nat.le_of_ble_eq_true rfl, Nat.le_of_ble_eq_true rfl⟩ (fun v Y H locs hq hG => ?_)
  rcases hq with ⟨rfl, ⟨i, hi, rfl, rfl⟩ | ⟨hq0, rfl⟩⟩
  · have t_i : tN (nI i) = i := tN_nI (by omega)
    have y_i := isNode_y hi (by omega)
    refine lv_ifnull hx hb dX4_cut_5 ?_
    refine lv_aload_n hx hb dX4_cut_8 rfl (lv_at hl 0 rfl) ?_
    refine lv_iload_n hx hb dX4_cut_9 rfl (lv_at hl 2 rfl) ?_
    refine q_callV (rest := []) (k_X4_nodeAt l D cA A hs hJ cj) hC hG cF4 hs.1.1.1 1 gX4_cut_X4_nodeAt rfl (by decide +kernel) ⟨by decide, by decide⟩ rfl hl.1 rfl (by simp [Value.category]) dX4_cut_10 ⟨Nat.le_of_ble_eq_true rfl, Nat.le_of_ble_eq_true rfl⟩ (fun v Y H locs hq hG => ?_)
    rcases hq with ⟨rfl, ⟨o, ho, rfl, rfl⟩ | ⟨hq0, rfl⟩⟩
    · have t_o : tN (nI o) = o := tN_nI (by omega)
      have y_o := isNode_y ho (by omega)
      refine lv_ifnull hx hb dX4_cut_13 ?_
      refine lv_iload_n hx hb dX4_cut_16 rfl (lv_at hl 1 rfl) ?_
      refine lv_iload_n hx hb dX4_cut_17 rfl (lv_at hl 2 rfl) ?_
      refine lv_icmp_ne (tgt := 24) hx hb dX4_cut_18 (by decide) (fun c18 => ?_) (fun c18 => ?_)
      · have hio : ¬ i = o := fun z => c18 (by rw [z])
        refine lv_aload_n hx hb dX4_cut_24 rfl (lv_at hl 0 rfl) ?_
        refine lv_iload_n hx hb dX4_cut_25 rfl (lv_at hl 1 rfl) ?_
        refine lv_iload_n hx hb dX4_cut_26 rfl (lv_at hl 2 rfl) ?_
        refine q_callV (rest := []) (k_X4_lineBetween l D cA A hs hJ i o (by omega) (by omega)) hC hG cF4 hs.1.1.1 2 gX4_cut_X4_lineBetween rfl (by decide +kernel) ⟨by decide, by decide⟩ rfl hl.1 rfl (by simp [Value.category]) dX4_cut_27 ⟨Nat.le_of_ble_eq_true rfl, Nat.le_of_ble_eq_true rfl⟩ (fun v Y H locs hq hG => ?_)
        obtain ⟨rfl, rfl⟩ := hq
        refine lv_istore (lv' := [(4, .int (nI (m_les i o * n + m_gre i o))), (0, .ref b), (1, .int (nI i)), (2, .int (nI o)), (3, .int (nI on))]) hx hb dX4_cut_30 hl (by decide) rfl (fun ls hl => ?_)
        refine lv_aload_n hx hb dX4_cut_32 rfl (lv_at hl 1 rfl) ?_
        refine q_getr hC hG cF4 i4 hs.1.1.1 2 (by decide) rfl hs.1.1.2.2.2 k30 dX4_cut_33 ?_
        refine lv_iload hx hb dX4_cut_36 (lv_at hl 0 rfl) ?_
        refine q_zw (w := M 16 (5 * i + o)) hC hG hs.1.2.2.2.2.1.1 hs.1.2.2.2.2.1.2 (line_lt (by omega) (by omega)) (nn_lt hnf).1 (cut_at P hs (by omega) (by omega) (by omega)) dX4_cut_38 ?_
        have b16 := hB.1 16 (5 * i + o) rfl
        refine n_ifeq (tgt := 46) hC dX4_cut_39 (by decide) (by omega) (fun c39 => ?_) (fun c39 => ?_)
        · refine n_iconst hC 0 dX4_cut_46 ?_
          refine lv_istore (lv' := [(5, .int (nI 0)), (4, .int (nI (m_les i o * n + m_gre i o))), (0, .ref b), (1, .int (nI i)), (2, .int (nI o)), (3, .int (nI on))]) hx hb dX4_cut_47 hl (by decide) rfl (fun ls hl => ?_)
          refine lv_aload_n hx hb dX4_cut_49 rfl (lv_at hl 2 rfl) ?_
          refine q_getr hC hG cF4 i4 hs.1.1.1 2 (by decide) rfl hs.1.1.2.2.2 k30 dX4_cut_50 ?_
          refine lv_iload hx hb dX4_cut_53 (lv_at hl 1 rfl) ?_
          refine lv_iload_n hx hb dX4_cut_55 rfl (lv_at hl 5 rfl) ?_
          refine q_zast hC hG (n := n * n) hs.1.2.2.2.2.1.1 hs.1.2.2.2.2.1.2 (line_lt hi ho) (nn_lt hnf).1 hon dX4_cut_56 (fun H locs hG => ?_)
          rw [cM_cut hi ho (by omega) (by omega)] at hG
          have hs := Sd_cut (on := on) hs (by omega) hi ho
          refine lv_iload hx hb dX4_cut_57 (lv_at hl 0 rfl) ?_
          exact q_iret (v := (nI 0)) hC hG hr hlk (by have e : m_cut n M (nI i) (nI o) on = (nI 0, up2 (up2 M 16 (5 * i + o) on) 16 (5 * o + i) on) := (by rw [m_cut, if_neg y_i, if_neg y_o, if_neg c18, t_i, t_o, if_pos c39]); rw [e]; exact ⟨rfl, X, rfl, hs, hgo⟩) dX4_cut_59
        · refine n_iconst hC 1 dX4_cut_42 ?_
          refine lv_goto (tgt := 47) hx hb dX4_cut_43 (by decide) ?_
          refine lv_istore (lv' := [(5, .int (nI 1)), (4, .int (nI (m_les i o * n + m_gre i o))), (0, .ref b), (1, .int (nI i)), (2, .int (nI o)), (3, .int (nI on))]) hx hb dX4_cut_47 hl (by decide) rfl (fun ls hl => ?_)
          refine lv_aload_n hx hb dX4_cut_49 rfl (lv_at hl 2 rfl) ?_
          refine q_getr hC hG cF4 i4 hs.1.1.1 2 (by decide) rfl hs.1.1.2.2.2 k30 dX4_cut_50 ?_
          refine lv_iload hx hb dX4_cut_53 (lv_at hl 1 rfl) ?_
          refine lv_iload_n hx hb dX4_cut_55 rfl (lv_at hl 5 rfl) ?_
          refine q_zast hC hG (n := n * n) hs.1.2.2.2.2.1.1 hs.1.2.2.2.2.1.2 (line_lt hi ho) (nn_lt hnf).1 hon dX4_cut_56 (fun H locs hG => ?_)
          rw [cM_cut hi ho (by omega) (by omega)] at hG
          have hs := Sd_cut (on := on) hs (by omega) hi ho
          refine lv_iload hx hb dX4_cut_57 (lv_at hl 0 rfl) ?_
          exact q_iret (v := (nI 1)) hC hG hr hlk (by have e : m_cut n M (nI i) (nI o) on = (nI 1, up2 (up2 M 16 (5 * i + o) on) 16 (5 * o + i) on) := (by rw [m_cut, if_neg y_i, if_neg y_o, if_neg c18, t_i, t_o, if_neg c39]); rw [e]; exact ⟨rfl, X, rfl, hs, hgo⟩) dX4_cut_59
      · refine lv_bipush (v := -2) hx hb dX4_cut_21 (by decide) ?_
        exact q_iret (v := (-2)) hC hG hr hlk (by have e : m_cut n M (nI i) (nI o) on = (-2, M) := (by rw [m_cut, if_neg y_i, if_neg y_o, if_pos c18]); rw [e]; exact ⟨rfl, X, rfl, hs, hgo⟩) dX4_cut_23
    · refine lv_ifnullN (tgt := 21) hx hb dX4_cut_13 (by decide) ?_
      refine lv_bipush (v := -2) hx hb dX4_cut_21 (by decide) ?_
      exact q_iret (v := (-2)) hC hG hr hlk (by have e : m_cut n M (nI i) cj on = (-2, M) := (by rw [m_cut, if_neg y_i, if_pos hq0]); rw [e]; exact ⟨rfl, X, rfl, hs, hgo⟩) dX4_cut_23
  · refine lv_ifnullN (tgt := 21) hx hb dX4_cut_5 (by decide) ?_
    refine lv_bipush (v := -2) hx hb dX4_cut_21 (by decide) ?_
    exact q_iret (v := (-2)) hC hG hr hlk (by have e : m_cut n M ci cj on = (-2, M) := (by rw [m_cut, if_pos hq0]); rw [e]; exact ⟨rfl, X, rfl, hs, hgo⟩) dX4_cut_23

abbrev rmX4_timeout : Room := { frames := 5, cells := 5, slots := 40, locals := 115 }
set_option maxHeartbeats 4000000 in
set_option maxRecDepth 100000 in
theorem k_X4_timeout (l : Launch) (D : va_G) (cA : Nat → ClassId) (A : Nat → Prop) {b n f : Nat} {X : Mem} {M : MM} {P : Nat → Nat} (hs : Sd b n f X M) (hJ : J M) (hK : K n f M P) (nd : Int32) : mt l D cA A yX4_timeout wsX4_timeout rmX4_timeout [.ref b, .int nd] (cM b n X M P) (fun w Y => w = some (.int (m_timeout n M nd).1) ∧ ∃ X1, Y = cM b n X1 (m_timeout n M nd).2 (P) ∧ Sd b n f X1 (m_timeout n M nd).2 ∧ go b n X X1) := by
  refine q_start (by decide) rfl (Nat.le_of_ble_eq_true rfl) (fun p e s m args below meth c H locs hC hr hlk hnm hG ls hl => ?_)
  have hl : lv_has ls 3 [(0, .ref b), (1, .int nd)] := hl
  have hx := hC.1.1
  have hb := hC.1.2.1
  have hts := hC.1.2.2.2.2
  have i4 : ∀ w ∈ wsX40, w ∈ wsX4_timeout := by decide +kernel
  have i2 : ∀ w ∈ wsX20, w ∈ wsX4_timeout := by decide +kernel
  have hnf := g_nf hs
  have hB := hJ.1
  have hL := hJ.2.1
  have hE := hJ.2.2.1
  have hgo := go_rf b n X
  have h17 := hB.2
  have k94 := hts (.fieldLink RX4 94 "ViewStamps$Node" "view" "I") (by decide +kernel)
  refine lv_aload_n hx hb dX4_timeout_0 rfl (lv_at hl 0 rfl) ?_
  refine lv_iload_n hx hb dX4_timeout_1 rfl (lv_at hl 1 rfl) ?_
  refine q_callV (rest := []) (k_X4_nodeAt l D cA A hs hJ nd) hC hG cF4 hs.1.1.1 1 gX4_timeout_X4_nodeAt rfl (by decide +kernel) ⟨by decide, by decide⟩ rfl hl.1 rfl (by simp [Value.category]) dX4_timeout_2 ⟨by decide, by decide⟩ (fun v Y H locs hq hG => ?_)
  rcases hq with ⟨rfl, ⟨i, hi, rfl, rfl⟩ | ⟨hq0, rfl⟩⟩
  · have t_i : tN (nI i) = i := tN_nI (by omega)
    have y_i := isNode_y hi (by omega)
    refine lv_astore_n (lv' := [(2, .ref (na b i)), (0, .ref b), (1, .int (nI i))]) hx hb dX4_timeout_5 rfl hl (by decide) rfl (fun ls hl => ?_)
    refine lv_aload_n hx hb dX4_timeout_6 rfl (lv_at hl 0 rfl) ?_
    refine lv_ifnonnull (tgt := 13) hx hb dX4_timeout_7 (by decide) ?_
    have kn := hK.1 i hi
    refine lv_aload_n hx hb dX4_timeout_13 rfl (lv_at hl 0 rfl) ?_
    refine q_callV (rest := []) (k_X2_isDown l D cA A hs hJ (i := i) (by omega)) hC hG cF2 (g_kn hs (by omega)) 0 gX4_timeout_X2_isDown rfl (by decide +kernel) ⟨by decide, by decide⟩ rfl hl.1 rfl (by simp [Value.category]) dX4_timeout_14 ⟨by decide, by decide⟩ (fun v Y H locs hq hG => ?_)
    obtain ⟨rfl, rfl⟩ := hq
    have q14 := c_down_le M i
    refine n_ifeq (tgt := 23) hC dX4_timeout_17 (by decide) (by omega) (fun c17 => ?_) (fun c17 => ?_)
    · refine lv_aload_n hx hb dX4_timeout_23 rfl (lv_at hl 0 rfl) ?_
      refine q_gw (w := M 6 i) hC hG cF2 i2 (g_kn hs (by omega)) 10 (by decide) rfl (g_n10 (by omega)) k94 dX4_timeout_24 ?_
      have b1 : M 6 i < 2147483648 := by have := hB.1 6 i rfl; first | exact this | (simp [up2, m_cp, m_cpk] at this; exact this) | omega
      refine n_sipush hC 1000 (by decide +kernel) dX4_timeout_27 ?_
      refine n_lt (tgt := 36) hC dX4_timeout_30 (by decide) (by omega) (by omega) (fun c30 => ?_) (fun c30 => ?_)
      · have c30n := Nat.not_le.mpr c30
        refine lv_aload_n hx hb dX4_timeout_36 rfl (lv_at hl 0 rfl) ?_
        refine lv_aload_n hx hb dX4_timeout_37 rfl (lv_at hl 0 rfl) ?_
        refine q_gw (w := M 6 i) hC hG cF2 i2 (g_kn hs (by omega)) 10 (by decide) rfl (g_n10 (by omega)) k94 dX4_timeout_38 ?_
        have b2 : M 6 i < 2147483648 := by have := hB.1 6 i rfl; first | exact this | (simp [up2, m_cp, m_cpk] at this; exact this) | omega
        refine n_iconst hC 1 dX4_timeout_41 ?_
        refine n_iadd hC dX4_timeout_42 ?_
        refine q_callV (rest := []) (k_X2_changeTo l D cA A hs hJ (i := i) (by omega) ((M 6 i) + 1) (by omega)) hC hG cF2 (g_kn hs (by omega)) 1 gX4_timeout_X2_changeTo rfl (by decide +kernel) ⟨by decide, by decide⟩ rfl hl.1 rfl (by simp [Value.category]) dX4_timeout_43 ⟨by decide, by decide⟩ (fun v Y H locs hq hG => ?_)
        obtain ⟨rfl, Xchan, rfl, hs, hgchan⟩ := hq
        have hgo := go_tr hgo hgchan
        have hJ := J_pa (i := i) (k := 3) (v := (M 6 i) + 1) (c := 0) (J_fg (J_up (J_up hJ 6 i (v := (M 6 i) + 1) (by decide) (Or.inl (by omega))) 5 i (v := 1) (by decide) (Or.inl (by decide))) i) (by omega) (by decide) (by omega) (by decide) n (by omega)
        have hB := hJ.1
        have hL := hJ.2.1
        have hE := hJ.2.2.1
        refine lv_aload_n hx hb dX4_timeout_46 rfl (lv_at hl 0 rfl) ?_
        refine q_gw (w := (m_chg n M i ((M 6 i) + 1)) 6 i) hC hG cF2 i2 (g_kn hs (by omega)) 10 (by decide) rfl (g_n10 (by omega)) k94 dX4_timeout_47 ?_
        have b3 : (m_chg n M i ((M 6 i) + 1)) 6 i < 2147483648 := by have := hB.1 6 i rfl; first | exact this | (simp [up2, m_cp, m_cpk] at this; exact this) | omega
        exact q_iret (v := (nI ((m_chg n M i ((M 6 i) + 1)) 6 i))) hC hG hr hlk (by have e : m_timeout n M (nI i) = (nI ((m_chg n M i ((M 6 i) + 1)) 6 i), m_chg n M i ((M 6 i) + 1)) := (by rw [m_timeout, if_neg y_i, t_i, if_pos (down_no c17 kn.1), if_neg (by omega)]); rw [e]; exact ⟨rfl, Xchan, rfl, hs, hgo⟩) dX4_timeout_50 (h1 := by decide) (h2 := by decide)
      · have c30n := Nat.not_lt.mpr c30
        refine lv_bipush (v := -4) hx hb dX4_timeout_33 (by decide) ?_
        exact q_iret (v := (-4)) hC hG hr hlk (by have e : m_timeout n M (nI i) = (-4, M) := (by rw [m_timeout, if_neg y_i, t_i, if_pos (down_no c17 kn.1), if_pos (by have := kn.2.1; omega)]); rw [e]; exact ⟨rfl, X, rfl, hs, hgo⟩) dX4_timeout_35 (h1 := by decide) (h2 := by decide)
    · refine lv_bipush (v := -3) hx hb dX4_timeout_20 (by decide) ?_
      exact q_iret (v := (-3)) hC hG hr hlk (by have e : m_timeout n M (nI i) = (-3, M) := (by rw [m_timeout, if_neg y_i, t_i, if_neg (by have := down_yes c17; omega)]); rw [e]; exact ⟨rfl, X, rfl, hs, hgo⟩) dX4_timeout_22 (h1 := by decide) (h2 := by decide)
  · refine lv_astore_nN (lv' := [(2, .null), (0, .ref b), (1, .int nd)]) hx hb dX4_timeout_5 rfl hl (by decide) rfl (fun ls hl => ?_)
    refine lv_aload_nN hx hb dX4_timeout_6 rfl (lv_at hl 0 rfl) ?_
    refine lv_ifnonnullN hx hb dX4_timeout_7 ?_
    refine lv_bipush (v := -2) hx hb dX4_timeout_10 (by decide) ?_
    exact q_iret (v := (-2)) hC hG hr hlk (by have e : m_timeout n M nd = (-2, M) := (by rw [m_timeout, if_pos hq0]); rw [e]; exact ⟨rfl, X, rfl, hs, hgo⟩) dX4_timeout_12 (h1 := by decide) (h2 := by decide)

theorem pag_eq {n f : Nat} {M : MM} {P : Nat → Nat} {i : Nat} (hi : i < n) (hn : n < 1000) (h2 : 1 ≤ n) (hK : Kn n f M P i) (h3 : M 5 i ≠ 3) : m_resend n M (nI i) = (nI (c_pag n M P i).1, (c_pag n M P i).2) := by
  rw [m_resend, if_neg (isNode_y hi (by omega)), tN_nI (by omega)]
  unfold c_pag
  by_cases h0 : M 5 i = 0
  · rw [if_pos h0, if_pos h0]
    split <;> rfl
  · rw [if_neg h0, if_neg h0]
    by_cases h1 : M 5 i = 1
    · rw [if_pos h1, if_pos h1]
      by_cases h8 : m_pa M i 3 (M 6 i) 0 n 8 i = 0
      · rw [if_pos h8, if_pos h8]
      · rw [if_neg h8, if_neg h8]
        have e8 : m_pa M i 3 (M 6 i) 0 n 8 i = 1 := by rw [m_pa_o _ _ _ _ _ (by decide)] at h8 ⊢; have := hK.2.2.1; omega
        by_cases hf : m_fst n (m_pa M i 3 (M 6 i) 0 n) i = 0
        · rw [if_pos hf, if_pos hf]
          unfold c_cast
          rw [up2_id e8, if_pos hf, show n - 1 + 1 = n by omega]
        · rw [if_neg hf, if_neg hf]
    · rw [if_neg h1, if_neg h1]
      by_cases h22 : M 5 i = 2
      · rw [if_pos h22, if_pos h22, hK.2.2.2.2.2.2.2.2.1 h22, hK.2.2.2.2.2.2.2.2.2.2.1 (by omega)]
      · have := hK.1; omega

abbrev rmX4_resend : Room := { frames := 5, cells := 6, slots := 48, locals := 114 }
set_option maxHeartbeats 4000000 in
set_option maxRecDepth 100000 in
theorem k_X4_resend (l : Launch) (D : va_G) (cA : Nat → ClassId) (A : Nat → Prop) {b n f : Nat} {X : Mem} {M : MM} {P : Nat → Nat} (hs : Sd b n f X M) (hJ : J M) (hK : K n f M P) (nd : Int32) : mt l D cA A yX4_resend wsX4_resend rmX4_resend [.ref b, .int nd] (cM b n X M P) (fun w Y => w = some (.int (m_resend n M nd).1) ∧ ∃ X1, Y = cM b n X1 (m_resend n M nd).2 (P) ∧ Sd b n f X1 (m_resend n M nd).2 ∧ go b n X X1) := by
  refine q_start (by decide) rfl (Nat.le_of_ble_eq_true rfl) (fun p e s m args below meth c H locs hC hr hlk hnm hG ls hl => ?_)
  have hl : lv_has ls 3 [(0, .ref b), (1, .int nd)] := hl
  have hx := hC.1.1
  have hb := hC.1.2.1
  have hts := hC.1.2.2.2.2
  have i4 : ∀ w ∈ wsX40, w ∈ wsX4_resend := by decide +kernel
  have i2 : ∀ w ∈ wsX20, w ∈ wsX4_resend := by decide +kernel
  have hnf := g_nf hs
  have hB := hJ.1
  have hL := hJ.2.1
  have hE := hJ.2.2.1
  have hgo := go_rf b n X
  have h17 := hB.2
  have k101 := hts (.fieldLink RX4 101 "ViewStamps$Node" "status" "I") (by decide +kernel)
  refine lv_aload_n hx hb dX4_resend_0 rfl (lv_at hl 0 rfl) ?_
  refine lv_iload_n hx hb dX4_resend_1 rfl (lv_at hl 1 rfl) ?_
  refine q_callV (rest := []) (k_X4_nodeAt l D cA A hs hJ nd) hC hG cF4 hs.1.1.1 1 gX4_resend_X4_nodeAt rfl (by decide +kernel) ⟨by decide, by decide⟩ rfl hl.1 rfl (by simp [Value.category]) dX4_resend_2 ⟨by decide, by decide⟩ (fun v Y H locs hq hG => ?_)
  rcases hq with ⟨rfl, ⟨i, hi, rfl, rfl⟩ | ⟨hq0, rfl⟩⟩
  · have t_i : tN (nI i) = i := tN_nI (by omega)
    have y_i := isNode_y hi (by omega)
    refine lv_astore_n (lv' := [(2, .ref (na b i)), (0, .ref b), (1, .int (nI i))]) hx hb dX4_resend_5 rfl hl (by decide) rfl (fun ls hl => ?_)
    refine lv_aload_n hx hb dX4_resend_6 rfl (lv_at hl 0 rfl) ?_
    refine lv_ifnonnull (tgt := 13) hx hb dX4_resend_7 (by decide) ?_
    have kn := hK.1 i hi
    refine lv_aload_n hx hb dX4_resend_13 rfl (lv_at hl 0 rfl) ?_
    refine q_gw (w := M 5 i) hC hG cF2 i2 (g_kn hs (by omega)) 9 (by decide) rfl (g_n9 (by omega)) k101 dX4_resend_14 ?_
    have b1 : M 5 i < 2147483648 := by have := hB.1 5 i rfl; first | exact this | (simp [up2, m_cp, m_cpk] at this; exact this) | omega
    refine n_iconst hC 3 dX4_resend_17 ?_
    refine n_ne (tgt := 26) hC dX4_resend_18 (by decide) (by omega) (by omega) (fun c18 => ?_) (fun c18 => ?_)
    · refine lv_aload_n hx hb dX4_resend_26 rfl (lv_at hl 0 rfl) ?_
      refine q_callV (rest := []) (k_X2_postAgain l D cA A hs hJ (i := i) hi kn.2.2.2.2.2.2.2.2.2.1) hC hG cF2 (g_kn hs (by omega)) 0 gX4_resend_X2_postAgain rfl (by decide +kernel) ⟨by decide, by decide⟩ rfl hl.1 rfl (by simp [Value.category]) dX4_resend_27 ⟨by decide, by decide⟩ (fun v Y H locs hq hG => ?_)
      obtain ⟨rfl, Xg, rfl, hs, hgg⟩ := hq
      have hgo := go_tr hgo hgg
      exact q_iret (v := (nI ((c_pag n M P i).1))) hC hG hr hlk (by have e : m_resend n M (nI i) = (nI (c_pag n M P i).1, (c_pag n M P i).2) := (by exact pag_eq hi (by omega) (by omega) kn c18); rw [e]; exact ⟨rfl, Xg, rfl, hs, hgo⟩) dX4_resend_30 (h1 := by decide) (h2 := by decide)
    · refine lv_bipush (v := -3) hx hb dX4_resend_21 (by decide) ?_
      refine lv_goto (tgt := 30) hx hb dX4_resend_23 (by decide) ?_
      exact q_iret (v := (-3)) hC hG hr hlk (by have e : m_resend n M (nI i) = (-3, M) := (by rw [m_resend, if_neg y_i, t_i, if_neg (by omega), if_neg (by omega), if_neg (by omega)]); rw [e]; exact ⟨rfl, X, rfl, hs, hgo⟩) dX4_resend_30 (h1 := by decide) (h2 := by decide)
  · refine lv_astore_nN (lv' := [(2, .null), (0, .ref b), (1, .int nd)]) hx hb dX4_resend_5 rfl hl (by decide) rfl (fun ls hl => ?_)
    refine lv_aload_nN hx hb dX4_resend_6 rfl (lv_at hl 0 rfl) ?_
    refine lv_ifnonnullN hx hb dX4_resend_7 ?_
    refine lv_bipush (v := -2) hx hb dX4_resend_10 (by decide) ?_
    exact q_iret (v := (-2)) hC hG hr hlk (by have e : m_resend n M nd = (-2, M) := (by rw [m_resend, if_pos hq0]); rw [e]; exact ⟨rfl, X, rfl, hs, hgo⟩) dX4_resend_12 (h1 := by decide) (h2 := by decide)

abbrev rmX4_crash : Room := { frames := 2, cells := 0, slots := 0, locals := 43 }
set_option maxHeartbeats 4000000 in
set_option maxRecDepth 100000 in
theorem k_X4_crash (l : Launch) (D : va_G) (cA : Nat → ClassId) (A : Nat → Prop) {b n f : Nat} {X : Mem} {M : MM} {P : Nat → Nat} (hs : Sd b n f X M) (hJ : J M) (hK : K n f M P) (nd : Int32) : mt l D cA A yX4_crash wsX4_crash rmX4_crash [.ref b, .int nd] (cM b n X M P) (fun w Y => w = some (.int (m_crash n M nd).1) ∧ ∃ X1, Y = cM b n X1 (m_crash n M nd).2 (c_crP n M P nd) ∧ Sd b n f X1 (m_crash n M nd).2 ∧ go b n X X1) := by
  refine q_start (by decide) rfl (Nat.le_of_ble_eq_true rfl) (fun p e s m args below meth c H locs hC hr hlk hnm hG ls hl => ?_)
  have hl : lv_has ls 4 [(0, .ref b), (1, .int nd)] := hl
  have hx := hC.1.1
  have hb := hC.1.2.1
  have hts := hC.1.2.2.2.2
  have i4 : ∀ w ∈ wsX40, w ∈ wsX4_crash := by decide +kernel
  have i2 : ∀ w ∈ wsX20, w ∈ wsX4_crash := by decide +kernel
  have hnf := g_nf hs
  have hB := hJ.1
  have hL := hJ.2.1
  have hE := hJ.2.2.1
  have hgo := go_rf b n X
  have h17 := hB.2
  have k46 := hts (.fieldLink RX4 46 "ViewStamps$Node" "log" "LViewStamps$Log;") (by decide +kernel)
  have k101 := hts (.fieldLink RX4 101 "ViewStamps$Node" "status" "I") (by decide +kernel)
  refine lv_aload_n hx hb dX4_crash_0 rfl (lv_at hl 0 rfl) ?_
  refine lv_iload_n hx hb dX4_crash_1 rfl (lv_at hl 1 rfl) ?_
  refine q_callV (rest := []) (k_X4_nodeAt l D cA A hs hJ nd) hC hG cF4 hs.1.1.1 1 gX4_crash_X4_nodeAt rfl (by decide +kernel) ⟨by decide, by decide⟩ rfl hl.1 rfl (by simp [Value.category]) dX4_crash_2 ⟨Nat.le_of_ble_eq_true rfl, Nat.le_of_ble_eq_true rfl⟩ (fun v Y H locs hq hG => ?_)
  rcases hq with ⟨rfl, ⟨i, hi, rfl, rfl⟩ | ⟨hq0, rfl⟩⟩
  · have t_i : tN (nI i) = i := tN_nI (by omega)
    have y_i := isNode_y hi (by omega)
    refine lv_astore_n (lv' := [(2, .ref (na b i)), (0, .ref b), (1, .int (nI i))]) hx hb dX4_crash_5 rfl hl (by decide) rfl (fun ls hl => ?_)
    refine lv_aload_n hx hb dX4_crash_6 rfl (lv_at hl 0 rfl) ?_
    refine lv_ifnonnull (tgt := 13) hx hb dX4_crash_7 (by decide) ?_
    refine lv_aload_n hx hb dX4_crash_13 rfl (lv_at hl 0 rfl) ?_
    refine q_gw (w := M 5 i) hC hG cF2 i2 (g_kn hs (by omega)) 9 (by decide) rfl (g_n9 (by omega)) k101 dX4_crash_14 ?_
    have b1 : M 5 i < 2147483648 := by have := hB.1 5 i rfl; first | exact this | (simp [up2, m_cp, m_cpk] at this; exact this) | omega
    refine n_iconst hC 3 dX4_crash_17 ?_
    refine n_ne (tgt := 24) hC dX4_crash_18 (by decide) (by omega) (by omega) (fun c18 => ?_) (fun c18 => ?_)
    · refine lv_aload_n hx hb dX4_crash_24 rfl (lv_at hl 0 rfl) ?_
      obtain ⟨lgn2, hlgn2a, hlgn2⟩ := hs.2.2.2.1 i (by omega)
      have hLlgn2 := hL i (by omega)
      refine q_getr hC hG cF2 i2 (g_kn hs (by omega)) 12 (by decide) rfl hlgn2a k46 dX4_crash_25 ?_
      refine q_callV (rest := []) (k_X1_size l D cA A hs hlgn2 hLlgn2.1) hC hG cF1 hlgn2.1 0 gX4_crash_X1_size rfl (by decide +kernel) ⟨by decide, by decide⟩ rfl hl.1 rfl (by simp [Value.category]) dX4_crash_28 ⟨Nat.le_of_ble_eq_true rfl, Nat.le_of_ble_eq_true rfl⟩ (fun v Y H locs hq hG => ?_)
      obtain ⟨rfl, rfl⟩ := hq
      refine lv_istore_n (lv' := [(3, .int (nI (M 3 i))), (2, .ref (na b i)), (0, .ref b), (1, .int (nI i))]) hx hb dX4_crash_31 rfl hl (by decide) rfl (fun ls hl => ?_)
      refine lv_aload_n hx hb dX4_crash_32 rfl (lv_at hl 1 rfl) ?_
      refine q_callV (rest := []) (k_X2_loseAll l D cA A hs hJ (i := i) hi) hC hG cF2 (g_kn hs (by omega)) 0 gX4_crash_X2_loseAll rfl (by decide +kernel) ⟨by decide, by decide⟩ rfl hl.1 rfl (by simp [Value.category]) dX4_crash_33 ⟨Nat.le_of_ble_eq_true rfl, Nat.le_of_ble_eq_true rfl⟩ (fun v Y H locs hq hG => ?_)
      obtain ⟨rfl, Xg, rfl, hs, hgg⟩ := hq
      have hgo := go_tr hgo hgg
      refine lv_iload_n hx hb dX4_crash_36 rfl (lv_at hl 0 rfl) ?_
      exact q_iret (v := (nI (M 3 i))) hC hG hr hlk (by have e : m_crash n M (nI i) = (nI (M 3 i), m_cz (m_cr1 M i) i 5) := (by rw [m_crash, if_neg y_i, t_i, if_neg c18]); have eP : c_crP n M P (nI i) = va_up P i 0 := (by rw [c_crP, if_neg y_i, t_i, if_neg c18]); rw [e, eP]; exact ⟨rfl, Xg, rfl, hs, hgo⟩) dX4_crash_37
    · refine lv_bipush (v := -3) hx hb dX4_crash_21 (by decide) ?_
      exact q_iret (v := (-3)) hC hG hr hlk (by have e : m_crash n M (nI i) = (-3, M) := (by rw [m_crash, if_neg y_i, t_i, if_pos c18]); have eP : c_crP n M P (nI i) = P := (by rw [c_crP, if_neg y_i, t_i, if_pos c18]); rw [e, eP]; exact ⟨rfl, X, rfl, hs, hgo⟩) dX4_crash_23
  · refine lv_astore_nN (lv' := [(2, .null), (0, .ref b), (1, .int nd)]) hx hb dX4_crash_5 rfl hl (by decide) rfl (fun ls hl => ?_)
    refine lv_aload_nN hx hb dX4_crash_6 rfl (lv_at hl 0 rfl) ?_
    refine lv_ifnonnullN hx hb dX4_crash_7 ?_
    refine lv_bipush (v := -2) hx hb dX4_crash_10 (by decide) ?_
    exact q_iret (v := (-2)) hC hG hr hlk (by have e : m_crash n M nd = (-2, M) := (by rw [m_crash, if_pos hq0]); have eP : c_crP n M P nd = P := (by rw [c_crP, if_pos hq0]); rw [e, eP]; exact ⟨rfl, X, rfl, hs, hgo⟩) dX4_crash_12

theorem in_gt {x : Int32} {e0 : Nat} (h : ¬ x < 0) (h1 : ¬ x ≤ nI e0) : m_in x (nI 0) (nI e0) = 0 := by
  unfold m_in
  rw [if_neg (show ¬ x < nI 0 from h), if_pos (Int32.not_le.mp h1)]

abbrev rmX4_recover : Room := { frames := 5, cells := 5, slots := 40, locals := 115 }
set_option maxHeartbeats 4000000 in
set_option maxRecDepth 100000 in
theorem k_X4_recover (l : Launch) (D : va_G) (cA : Nat → ClassId) (A : Nat → Prop) {b n f : Nat} {X : Mem} {M : MM} {P : Nat → Nat} (hs : Sd b n f X M) (hJ : J M) (hK : K n f M P) (nd nc : Int32) : mt l D cA A yX4_recover wsX4_recover rmX4_recover [.ref b, .int nd, .int nc] (cM b n X M P) (fun w Y => w = some (.int (m_recover n M nd nc).1) ∧ ∃ X1, Y = cM b n X1 (m_recover n M nd nc).2 (c_rcP n M P nd nc) ∧ Sd b n f X1 (m_recover n M nd nc).2 ∧ go b n X X1) := by
  refine q_start (by decide) rfl (Nat.le_of_ble_eq_true rfl) (fun p e s m args below meth c H locs hC hr hlk hnm hG ls hl => ?_)
  have hl : lv_has ls 4 [(0, .ref b), (1, .int nd), (2, .int nc)] := hl
  have hx := hC.1.1
  have hb := hC.1.2.1
  have hts := hC.1.2.2.2.2
  have i4 : ∀ w ∈ wsX40, w ∈ wsX4_recover := by decide +kernel
  have i2 : ∀ w ∈ wsX20, w ∈ wsX4_recover := by decide +kernel
  have hnf := g_nf hs
  have hB := hJ.1
  have hL := hJ.2.1
  have hE := hJ.2.2.1
  have hgo := go_rf b n X
  have h17 := hB.2
  have k101 := hts (.fieldLink RX4 101 "ViewStamps$Node" "status" "I") (by decide +kernel)
  refine lv_aload_n hx hb dX4_recover_0 rfl (lv_at hl 0 rfl) ?_
  refine lv_iload_n hx hb dX4_recover_1 rfl (lv_at hl 1 rfl) ?_
  refine q_callV (rest := []) (k_X4_nodeAt l D cA A hs hJ nd) hC hG cF4 hs.1.1.1 1 gX4_recover_X4_nodeAt rfl (by decide +kernel) ⟨by decide, by decide⟩ rfl hl.1 rfl (by simp [Value.category]) dX4_recover_2 ⟨by decide, by decide⟩ (fun v Y H locs hq hG => ?_)
  rcases hq with ⟨rfl, ⟨i, hi, rfl, rfl⟩ | ⟨hq0, rfl⟩⟩
  · have t_i : tN (nI i) = i := tN_nI (by omega)
    have y_i := isNode_y hi (by omega)
    refine lv_astore_n (lv' := [(3, .ref (na b i)), (0, .ref b), (1, .int (nI i)), (2, .int nc)]) hx hb dX4_recover_5 rfl hl (by decide) rfl (fun ls hl => ?_)
    refine lv_aload_n hx hb dX4_recover_6 rfl (lv_at hl 0 rfl) ?_
    refine lv_ifnull hx hb dX4_recover_7 ?_
    refine lv_iload_n hx hb dX4_recover_10 rfl (lv_at hl 3 rfl) ?_
    refine lv_if_lt (tgt := 20) hx hb dX4_recover_11 (by decide) (fun c11 => ?_) (fun c11 => ?_)
    · refine lv_bipush (v := -2) hx hb dX4_recover_20 (by decide) ?_
      exact q_iret (v := (-2)) hC hG hr hlk (by have e : m_recover n M (nI i) nc = (-2, M) := (by rw [m_recover, if_neg y_i, if_pos (in_lo c11)]); have eP : c_rcP n M P (nI i) nc = P := (by rw [c_rcP, if_neg y_i, if_pos (in_lo c11)]); rw [e, eP]; exact ⟨rfl, X, rfl, hs, hgo⟩) dX4_recover_22 (h1 := by decide) (h2 := by decide)
    · refine lv_iload_n hx hb dX4_recover_14 rfl (lv_at hl 3 rfl) ?_
      refine lv_ldc (v := nI 1000000) hx hb hC.1.2.2.2.1 (hts (.constant RX4 110 (1000000)) (by decide +kernel)) dX4_recover_15 ?_
      refine lv_icmp_le (tgt := 23) hx hb dX4_recover_17 (by decide) (fun c17 => ?_) (fun c17 => ?_)
      · obtain ⟨c0, hc0, rfl⟩ := nI_of c11
        have hc1 : c0 ≤ 1000000 := Nat.le_of_not_lt fun z => nI_ge z hc0 c17
        have t_c : tN (nI c0) = c0 := tN_nI (by omega)
        have y_c : ¬ m_in (nI c0) (nI 0) (nI 1000000) = 0 := by rw [m_in_yes (Nat.zero_le _) hc1 (by decide)]; decide
        refine lv_aload_n hx hb dX4_recover_23 rfl (lv_at hl 0 rfl) ?_
        refine q_gw (w := M 5 i) hC hG cF2 i2 (g_kn hs (by omega)) 9 (by decide) rfl (g_n9 (by omega)) k101 dX4_recover_24 ?_
        have b1 : M 5 i < 2147483648 := by have := hB.1 5 i rfl; first | exact this | (simp [up2, m_cp, m_cpk] at this; exact this) | omega
        refine n_iconst hC 3 dX4_recover_27 ?_
        refine n_eq (tgt := 34) hC dX4_recover_28 (by decide) (by omega) (by omega) (fun c28 => ?_) (fun c28 => ?_)
        · refine lv_aload_n hx hb dX4_recover_34 rfl (lv_at hl 0 rfl) ?_
          refine lv_iload_n hx hb dX4_recover_35 rfl (lv_at hl 3 rfl) ?_
          refine q_callV (rest := []) (k_X2_startRecovery l D cA A hs hJ (i := i) hi c0 (by omega) ((hK.1 i hi).2.2.2.2.2.2.2.2.2.2.1 (by omega))) hC hG cF2 (g_kn hs (by omega)) 1 gX4_recover_X2_startRecovery rfl (by decide +kernel) ⟨by decide, by decide⟩ rfl hl.1 rfl (by simp [Value.category]) dX4_recover_36 ⟨by decide, by decide⟩ (fun v Y H locs hq hG => ?_)
          obtain ⟨rfl, Xg, rfl, hs, hgg⟩ := hq
          have hgo := go_tr hgo hgg
          refine n_iconst hC 1 dX4_recover_39 ?_
          exact q_iret (v := (nI 1)) hC hG hr hlk (by have e : m_recover n M (nI i) (nI c0) = (nI 1, m_pa (m_rc1 M i c0) i 6 0 c0 n) := (by rw [m_recover, if_neg y_i, if_neg y_c, t_i, t_c, if_pos c28]); have eP : c_rcP n M P (nI i) (nI c0) = va_up P i c0 := (by rw [c_rcP, if_neg y_i, if_neg y_c, t_i, t_c, if_pos c28]); rw [e, eP]; exact ⟨rfl, Xg, rfl, hs, hgo⟩) dX4_recover_40 (h1 := by decide) (h2 := by decide)
        · refine lv_bipush (v := -3) hx hb dX4_recover_31 (by decide) ?_
          exact q_iret (v := (-3)) hC hG hr hlk (by have e : m_recover n M (nI i) (nI c0) = (-3, M) := (by rw [m_recover, if_neg y_i, if_neg y_c, t_i, if_neg c28]); have eP : c_rcP n M P (nI i) (nI c0) = P := (by rw [c_rcP, if_neg y_i, if_neg y_c, t_i, if_neg c28]); rw [e, eP]; exact ⟨rfl, X, rfl, hs, hgo⟩) dX4_recover_33 (h1 := by decide) (h2 := by decide)
      · refine lv_bipush (v := -2) hx hb dX4_recover_20 (by decide) ?_
        exact q_iret (v := (-2)) hC hG hr hlk (by have e : m_recover n M (nI i) nc = (-2, M) := (by rw [m_recover, if_neg y_i, if_pos (in_gt c11 c17)]); have eP : c_rcP n M P (nI i) nc = P := (by rw [c_rcP, if_neg y_i, if_pos (in_gt c11 c17)]); rw [e, eP]; exact ⟨rfl, X, rfl, hs, hgo⟩) dX4_recover_22 (h1 := by decide) (h2 := by decide)
  · refine lv_astore_nN (lv' := [(3, .null), (0, .ref b), (1, .int nd), (2, .int nc)]) hx hb dX4_recover_5 rfl hl (by decide) rfl (fun ls hl => ?_)
    refine lv_aload_nN hx hb dX4_recover_6 rfl (lv_at hl 0 rfl) ?_
    refine lv_ifnullN (tgt := 20) hx hb dX4_recover_7 (by decide) ?_
    refine lv_bipush (v := -2) hx hb dX4_recover_20 (by decide) ?_
    exact q_iret (v := (-2)) hC hG hr hlk (by have e : m_recover n M nd nc = (-2, M) := (by rw [m_recover, if_pos hq0]); have eP : c_rcP n M P nd nc = P := (by rw [c_rcP, if_pos hq0]); rw [e, eP]; exact ⟨rfl, X, rfl, hs, hgo⟩) dX4_recover_22 (h1 := by decide) (h2 := by decide)
