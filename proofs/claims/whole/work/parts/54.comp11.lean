abbrev rmX1_init : Room := { frames := 1, cells := 0, slots := 0, locals := 20 }
set_option maxHeartbeats 4000000 in
set_option maxRecDepth 100000 in
theorem k_X1_init (l : Launch) (D : va_G) (cA : Nat → ClassId) (A : Nat → Prop) {X : Mem} (q ca : Nat) (hk0 : kd X q = 2) : mt l D cA A yX1_init wsX1_init rmX1_init [.ref q, .ref ca] (X) (fun v Y => v = none ∧ Y = wR X q 0 (some ca)) := by
  refine q_start (by decide) rfl (Nat.le_of_ble_eq_true rfl) (fun p e s m args below meth c H locs hC hr hlk hnm hG ls hl => ?_)
  have hl : lv_has ls 2 [(0, .ref q), (1, .ref ca)] := hl
  have hx := hC.1.1
  have hb := hC.1.2.1
  have hts := hC.1.2.2.2.2
  have i1 : ∀ w ∈ wsX10, w ∈ wsX1_init := by decide +kernel
  have k9 := hts (.fieldLink RX1 9 "ViewStamps$Log" "cells" "[I") (by decide +kernel)
  refine lv_aload_n hx hb dX1_init_0 rfl (lv_at hl 0 rfl) ?_
  refine q_obj hC (hts (.methodLink RX1 3 objectInit) (by decide +kernel)) (hts (.instanceMethod objectInit) (by decide +kernel)) (hts (.code objectInit ⟨#[0xb1]⟩ 1 none) (by decide +kernel)) hl.1 (by simp [Value.category]) (by decide) (by decide) dX1_init_1 ?_
  refine lv_aload_n hx hb dX1_init_4 rfl (lv_at hl 0 rfl) ?_
  refine lv_aload_n hx hb dX1_init_5 rfl (lv_at hl 1 rfl) ?_
  refine q_putr hC hG cF1 i1 hk0 0 (by decide) rfl k9 (Or.inr ⟨hnm, rfl⟩) rfl rfl dX1_init_6 (fun H locs hG => ?_)
  exact q_vret hC hG hr hlk (⟨rfl, rfl⟩) dX1_init_9

abbrev rmX1_answers : Room := { frames := 2, cells := 0, slots := 0, locals := 42 }
set_option maxHeartbeats 4000000 in
set_option maxRecDepth 100000 in
theorem k_X1_answers (l : Launch) (D : va_G) (cA : Nat → ClassId) (A : Nat → Prop) {b n f : Nat} {X : Mem} {M : MM} {P : Nat → Nat} (hs : Sd b n f X M) (hJ : J M) {lg g0 : Nat} (hlg : LogAt b n X lg M g0) (hg0 : g0 < 295) (ci x0 : Nat) (hci : ci < 2147483648) (hx0 : x0 < 2147483648) : mt l D cA A yX1_answers wsX1_answers rmX1_answers [.ref lg, .int (nI ci), .int (nI x0)] (cM b n X M P) (fun w Y => w = some (.int (nI (c_ans M g0 ci x0))) ∧ Y = cM b n X M P) := by
  refine q_start (by decide) rfl (Nat.le_of_ble_eq_true rfl) (fun p e s m args below meth c H locs hC hr hlk hnm hG ls hl => ?_)
  have hl : lv_has ls 4 [(0, .ref lg), (1, .int (nI ci)), (2, .int (nI x0))] := hl
  have hx := hC.1.1
  have hb := hC.1.2.1
  have hts := hC.1.2.2.2.2
  have i1 : ∀ w ∈ wsX10, w ∈ wsX1_answers := by decide +kernel
  have hnf := g_nf hs
  have hB := hJ.1
  have hL := hJ.2.1
  have hE := hJ.2.2.1
  have hL0 := hL g0 hg0
  refine n_iconst hC 1 dX1_answers_0 ?_
  refine lv_istore_n (lv' := [(3, .int (nI 1)), (0, .ref lg), (1, .int (nI ci)), (2, .int (nI x0))]) hx hb dX1_answers_1 rfl hl (by decide) rfl (fun ls hl => ?_)
  have loop : ∀ (d : Nat) (j : Nat) (H : Heap) (locs : List Loc) (ls : Array Slot), M 3 g0 - j < d → j ≤ M 3 g0 → m_new M g0 ci x0 j ≠ 0 → gw D cA A (cM b n X M P) s.heap H locs → lv_has ls 4 [(0, .ref lg), (1, .int (nI ci)), (2, .int (nI x0)), (3, .int (nI (j + 1)))] → W p l e rmX1_answers s m args below meth c H locs 0 0 (MQ below (mQ D cA A (fun w Y => w = some (.int (nI (c_ans M g0 ci x0))) ∧ Y = cM b n X M P)) args s rmX1_answers.cells rmX1_answers.slots A) (F0 m 2 ls []) := by
    intro d
    induction d with
    | zero => intro j H locs ls hd; exact absurd hd (Nat.not_lt_zero _)
    | succ d ih =>
      intro j H locs ls hd hj hnw hG hl
      refine lv_iload_n hx hb dX1_answers_2 rfl (lv_at hl 3 rfl) ?_
      refine lv_aload_n hx hb dX1_answers_3 rfl (lv_at hl 0 rfl) ?_
      refine q_callV (rest := [.int (nI (j + 1))]) (k_X1_size l D cA A hs hlg hL0.1) hC hG cF1 hlg.1 0 gX1_answers_X1_size rfl (by decide +kernel) ⟨by decide, by decide⟩ rfl hl.1 rfl (by simp [Value.category]) dX1_answers_4 ⟨Nat.le_of_ble_eq_true rfl, Nat.le_of_ble_eq_true rfl⟩ (fun v Y H locs hq hG => ?_)
      obtain ⟨rfl, rfl⟩ := hq
      refine n_gt (tgt := 38) hC dX1_answers_7 (by decide) (by omega) (by omega) (fun c7 => ?_) (fun c7 => ?_)
      · have c7n := Nat.not_le.mpr c7
        refine n_iconst hC 0 dX1_answers_38 ?_
        exact q_zret (v := 0) hC hG hr hlk (by first | decide | omega) (⟨by rw [c_ans, if_neg (by rw [show M 3 g0 = j by omega]; exact hnw)], rfl⟩) dX1_answers_39
      · have c7n := Nat.not_lt.mpr c7
        have ent := hE g0 j hg0 (by omega)
        have ent0 : M 2 (96 * g0 + 6 * j + 0) < 2147483648 := ent.1
        refine lv_aload_n hx hb dX1_answers_10 rfl (lv_at hl 0 rfl) ?_
        refine lv_iload_n hx hb dX1_answers_11 rfl (lv_at hl 3 rfl) ?_
        refine n_iconst hC 0 dX1_answers_12 ?_
        refine q_callV (rest := []) (k_X1_field l D cA A hs hlg hL0.1 (nI (j + 1)) (nI 0)) hC hG cF1 hlg.1 2 gX1_answers_X1_field rfl (by decide +kernel) ⟨by decide, by decide⟩ rfl hl.1 rfl (by simp [Value.category]) dX1_answers_13 ⟨Nat.le_of_ble_eq_true rfl, Nat.le_of_ble_eq_true rfl⟩ (fun v Y H locs hq hG => ?_)
        obtain ⟨rfl, rfl⟩ := hq
        rw [c_fld_s (by omega) (by omega) (by omega)]
        refine lv_iload_n hx hb dX1_answers_16 rfl (lv_at hl 1 rfl) ?_
        refine n_ne (tgt := 32) hC dX1_answers_17 (by decide) (by omega) (by omega) (fun c17 => ?_) (fun c17 => ?_)
        · refine n_iinc (n := 1) (k := 3) (lv' := [(3, .int (nI ((j + 1) + 1))), (0, .ref lg), (1, .int (nI ci)), (2, .int (nI x0))]) hC dX1_answers_32 hl rfl (by decide) rfl (fun ls hl => ?_)
          refine lv_goto (tgt := 2) hx hb dX1_answers_35 (by decide) ?_
          exact ih (j + 1) _ _ _ (by omega) (by omega) (m_new_s hnw (Or.inl c17)) hG (lv_sub hl [1, 2, 3, 0] rfl)
        · refine lv_aload_n hx hb dX1_answers_20 rfl (lv_at hl 0 rfl) ?_
          refine lv_iload_n hx hb dX1_answers_21 rfl (lv_at hl 3 rfl) ?_
          refine n_iconst hC 1 dX1_answers_22 ?_
          refine q_callV (rest := []) (k_X1_field l D cA A hs hlg hL0.1 (nI (j + 1)) (nI 1)) hC hG cF1 hlg.1 2 gX1_answers_X1_field rfl (by decide +kernel) ⟨by decide, by decide⟩ rfl hl.1 rfl (by simp [Value.category]) dX1_answers_23 ⟨Nat.le_of_ble_eq_true rfl, Nat.le_of_ble_eq_true rfl⟩ (fun v Y H locs hq hG => ?_)
          obtain ⟨rfl, rfl⟩ := hq
          rw [c_fld_s (by omega) (by omega) (by omega)]
          refine lv_iload_n hx hb dX1_answers_26 rfl (lv_at hl 2 rfl) ?_
          refine n_lt (tgt := 32) hC dX1_answers_27 (by decide) (by omega) (by omega) (fun c27 => ?_) (fun c27 => ?_)
          · have c27n := Nat.not_le.mpr c27
            refine n_iinc (n := 1) (k := 3) (lv' := [(3, .int (nI ((j + 1) + 1))), (0, .ref lg), (1, .int (nI ci)), (2, .int (nI x0))]) hC dX1_answers_32 hl rfl (by decide) rfl (fun ls hl => ?_)
            refine lv_goto (tgt := 2) hx hb dX1_answers_35 (by decide) ?_
            exact ih (j + 1) _ _ _ (by omega) (by omega) (m_new_s hnw (Or.inr c27)) hG (lv_sub hl [1, 2, 3, 0] rfl)
          · have c27n := Nat.not_lt.mpr c27
            refine n_iconst hC 1 dX1_answers_30 ?_
            exact q_zret (v := 1) hC hG hr hlk (by first | decide | omega) (⟨by rw [c_ans, if_pos (c_new_0 (m_new_n c17 (by omega)) _ (by omega))], rfl⟩) dX1_answers_31
  exact loop (M 3 g0 + 1) 0 _ _ _ (by omega) (by omega) (show (1 : Nat) ≠ 0 by decide) hG (lv_sub hl [1, 2, 3, 0] rfl)

abbrev rmX1_with : Room := { frames := 2, cells := 2, slots := 103, locals := 82 }
set_option maxHeartbeats 4000000 in
set_option maxRecDepth 100000 in
theorem k_X1_with (l : Launch) (D : va_G) (cA : Nat → ClassId) (A : Nat → Prop) {b n f : Nat} {X : Mem} {M : MM} {P : Nat → Nat} (hs : Sd b n f X M) (hJ : J M) {lg g0 : Nat} (hlg : LogAt b n X lg M g0) (hg0 : g0 < 295) (ci x0 k0 a0 b0 v0 : Nat) (h16 : M 3 g0 < 16) : mt l D cA A yX1_with wsX1_with rmX1_with [.ref lg, .int (nI ci), .int (nI x0), .int (nI k0), .int (nI a0), .int (nI b0), .int (nI v0)] (cM b n X M P) (fun w Y => ∃ X1 q, w = some (.ref q) ∧ Y = cM b n X1 M P ∧ Sd b n f X1 M ∧ go b n X X1 ∧ LogAt b n X1 q (m_ent M g0 ci x0 k0 a0 b0 v0) g0) := by
  refine q_start (by decide) rfl (Nat.le_of_ble_eq_true rfl) (fun p e s m args below meth c H locs hC hr hlk hnm hG ls hl => ?_)
  have hl : lv_has ls 9 [(0, .ref lg), (1, .int (nI ci)), (2, .int (nI x0)), (3, .int (nI k0)), (4, .int (nI a0)), (5, .int (nI b0)), (6, .int (nI v0))] := hl
  have hx := hC.1.1
  have hb := hC.1.2.1
  have hts := hC.1.2.2.2.2
  have i1 : ∀ w ∈ wsX10, w ∈ wsX1_with := by decide +kernel
  have hnf := g_nf hs
  have hB := hJ.1
  have hL := hJ.2.1
  have hE := hJ.2.2.1
  have hL0 := hL g0 hg0
  obtain ⟨-, ca, hca1, hca2, hca3, hca4, hca5⟩ := id hlg
  have hhe := hs.2.2.2.2.2.2.2.1
  have hh1 : nx X ≠ b + 3 := by unfold he at hhe; omega
  have hh2 : nx X < b + 6 ∨ b + 7 + 5 * n ≤ nx X := by unfold he at hhe; omega
  have k9 := hts (.fieldLink RX1 9 "ViewStamps$Log" "cells" "[I") (by decide +kernel)
  refine lv_aload_n hx hb dX1_with_0 rfl (lv_at hl 0 rfl) ?_
  refine q_getr hC hG cF1 i1 hlg.1 0 (by decide) rfl hca1 k9 dX1_with_1 ?_
  refine q_alen hC hG (k := 7) hca2 (by decide) (by decide) hca3 dX1_with_4 ?_
  refine lv_istore (lv' := [(7, .int (nI (6 * M 3 g0))), (0, .ref lg), (1, .int (nI ci)), (2, .int (nI x0)), (3, .int (nI k0)), (4, .int (nI a0)), (5, .int (nI b0)), (6, .int (nI v0))]) hx hb dX1_with_5 hl (by decide) rfl (fun ls hl => ?_)
  refine lv_aload_n hx hb dX1_with_7 rfl (lv_at hl 1 rfl) ?_
  refine q_getr hC hG cF1 i1 hlg.1 0 (by decide) rfl hca1 k9 dX1_with_8 ?_
  refine lv_iload hx hb dX1_with_11 (lv_at hl 0 rfl) ?_
  refine n_bipush hC 6 (by decide) dX1_with_13 ?_
  refine n_iadd hC dX1_with_15 ?_
  have hlt := gw_lt hG
  refine q_callS (rest := []) (k_J7_copyOf_59c91 l D cA A (Z := cM b n X M P) (a := ca) (z0 := 6 * M 3 g0) ((6 * M 3 g0) + 6) hca2 hca3 (by omega) (by omega)) hC hG 2 gX1_with_J7_copyOf_59c91 rfl (by decide +kernel) ⟨by decide, by decide⟩ rfl hl.1 rfl (by simp [Value.category]) dX1_with_16 ⟨by decide, by decide⟩ (fun v Y H locs hq hG => ?_)
  obtain ⟨rfl, rfl⟩ := hq
  rw [cM_cpm _ _ _ _ _ hhe hca5] at hG
  have ka : kd (cpm X ca (6 * M 3 g0) (6 * M 3 g0 + 6)) (nx X) = 7 := va_up_self _ _ _
  have la : ln (cpm X ca (6 * M 3 g0) (6 * M 3 g0 + 6)) (nx X) = 6 * M 3 g0 + 6 := va_up_self _ _ _
  refine lv_astore (lv' := [(8, .ref (nx X)), (7, .int (nI (6 * M 3 g0))), (0, .ref lg), (1, .int (nI ci)), (2, .int (nI x0)), (3, .int (nI k0)), (4, .int (nI a0)), (5, .int (nI b0)), (6, .int (nI v0))]) hx hb dX1_with_19 hl (by decide) rfl (fun ls hl => ?_)
  refine lv_aload hx hb dX1_with_21 (lv_at hl 0 rfl) ?_
  refine lv_iload hx hb dX1_with_23 (lv_at hl 1 rfl) ?_
  refine n_iconst hC 0 dX1_with_25 ?_
  refine n_iadd hC dX1_with_26 ?_
  refine lv_iload_n hx hb dX1_with_27 rfl (lv_at hl 3 rfl) ?_
  refine q_iast hC hG (n := 6 * M 3 g0 + 6) ka la (by omega) (by omega) dX1_with_28 (fun H locs hG => ?_)
  rw [cM_wI _ _ _ _ _ hh1 hh2] at hG
  refine lv_aload hx hb dX1_with_29 (lv_at hl 0 rfl) ?_
  refine lv_iload hx hb dX1_with_31 (lv_at hl 1 rfl) ?_
  refine n_iconst hC 1 dX1_with_33 ?_
  refine n_iadd hC dX1_with_34 ?_
  refine lv_iload_n hx hb dX1_with_35 rfl (lv_at hl 4 rfl) ?_
  refine q_iast hC hG (n := 6 * M 3 g0 + 6) ka la (by omega) (by omega) dX1_with_36 (fun H locs hG => ?_)
  rw [cM_wI _ _ _ _ _ hh1 hh2] at hG
  refine lv_aload hx hb dX1_with_37 (lv_at hl 0 rfl) ?_
  refine lv_iload hx hb dX1_with_39 (lv_at hl 1 rfl) ?_
  refine n_iconst hC 2 dX1_with_41 ?_
  refine n_iadd hC dX1_with_42 ?_
  refine lv_iload_n hx hb dX1_with_43 rfl (lv_at hl 5 rfl) ?_
  refine q_iast hC hG (n := 6 * M 3 g0 + 6) ka la (by omega) (by omega) dX1_with_44 (fun H locs hG => ?_)
  rw [cM_wI _ _ _ _ _ hh1 hh2] at hG
  refine lv_aload hx hb dX1_with_45 (lv_at hl 0 rfl) ?_
  refine lv_iload hx hb dX1_with_47 (lv_at hl 1 rfl) ?_
  refine n_iconst hC 3 dX1_with_49 ?_
  refine n_iadd hC dX1_with_50 ?_
  refine lv_iload hx hb dX1_with_51 (lv_at hl 6 rfl) ?_
  refine q_iast hC hG (n := 6 * M 3 g0 + 6) ka la (by omega) (by omega) dX1_with_53 (fun H locs hG => ?_)
  rw [cM_wI _ _ _ _ _ hh1 hh2] at hG
  refine lv_aload hx hb dX1_with_54 (lv_at hl 0 rfl) ?_
  refine lv_iload hx hb dX1_with_56 (lv_at hl 1 rfl) ?_
  refine n_iconst hC 4 dX1_with_58 ?_
  refine n_iadd hC dX1_with_59 ?_
  refine lv_iload hx hb dX1_with_60 (lv_at hl 7 rfl) ?_
  refine q_iast hC hG (n := 6 * M 3 g0 + 6) ka la (by omega) (by omega) dX1_with_62 (fun H locs hG => ?_)
  rw [cM_wI _ _ _ _ _ hh1 hh2] at hG
  refine lv_aload hx hb dX1_with_63 (lv_at hl 0 rfl) ?_
  refine lv_iload hx hb dX1_with_65 (lv_at hl 1 rfl) ?_
  refine n_iconst hC 5 dX1_with_67 ?_
  refine n_iadd hC dX1_with_68 ?_
  refine lv_iload hx hb dX1_with_69 (lv_at hl 8 rfl) ?_
  refine q_iast hC hG (n := 6 * M 3 g0 + 6) ka la (by omega) (by omega) dX1_with_71 (fun H locs hG => ?_)
  rw [cM_wI _ _ _ _ _ hh1 hh2] at hG
  refine q_new hC hG cF1 i1 (hts (.classLink RX1 10 RX1) (by decide +kernel)) (hts (.instantiable RX1 1) (by decide +kernel)) (hts (.initialized RX1) (by decide +kernel)) (by decide) (by decide) dX1_with_72 (fun H hG => ?_)
  rw [cM_nw _ _ _ _ _ (show he b n ≤ nx X + 1 by omega)] at hG
  refine lv_dup hx hb dX1_with_75 rfl ?_
  refine lv_aload hx hb dX1_with_76 (lv_at hl 0 rfl) ?_
  refine q_callI (rest := [.ref (nx X + 1)]) (k_X1_init l D cA A (X := cM b n (nw (lgw X ca (6 * M 3 g0) ci x0 k0 a0 b0 v0) 2 0) M P) (nx X + 1) (nx X) (va_up_self _ _ _)) hC hG 1 gX1_with_X1_init rfl (hts (.initialized yX1_init.cls) (by decide +kernel)) (hts (.methodLink RX1 26 yX1_init) (by decide +kernel)) (hts (.instanceMethod yX1_init) (by decide +kernel)) rfl (by decide +kernel) ⟨by decide, by decide⟩ rfl hl.1 rfl (by simp [Value.category]) dX1_with_78 ⟨by decide, by decide⟩ (fun v Y H locs hq hG => ?_)
  obtain ⟨rfl, rfl⟩ := hq
  rw [cM_wR] at hG
  exact q_aret (v := (some (nx X + 1))) hC hG hr (by first | exact Or.inl ⟨_, rfl⟩ | exact Or.inr ⟨_, rfl⟩) hlk (by have ff := lgx_fr X ca (6 * M 3 g0) ci x0 k0 a0 b0 v0; exact ⟨lgx X ca (6 * M 3 g0) ci x0 k0 a0 b0 v0, nx X + 1, rfl, rfl, Sd_fr hs ff hlt, go_fr ff hlt hhe, lgx_at ci x0 k0 a0 b0 v0 hhe hca4⟩) dX1_with_81 (h1 := by decide) (h2 := by decide)

abbrev rmX1_isLike : Room := { frames := 2, cells := 0, slots := 0, locals := 42 }
set_option maxHeartbeats 4000000 in
set_option maxRecDepth 100000 in
theorem k_X1_isLike (l : Launch) (D : va_G) (cA : Nat → ClassId) (A : Nat → Prop) {b n f : Nat} {X : Mem} {M : MM} {P : Nat → Nat} (hs : Sd b n f X M) (hJ : J M) {lg g1 lh g2 : Nat} (hlg : LogAt b n X lg M g1) (hg1 : g1 < 295) (hlh : LogAt b n X lh M g2) (hg2 : g2 < 295) (k0 : Nat) (hk1 : k0 ≤ M 3 g1) (hk2 : k0 ≤ M 3 g2) : mt l D cA A yX1_isLike wsX1_isLike rmX1_isLike [.ref lg, .ref lh, .int (nI k0)] (cM b n X M P) (fun w Y => w = some (.int (nI (c_sm M g1 g2 (6 * k0)))) ∧ Y = cM b n X M P) := by
  refine q_start (by decide) rfl (Nat.le_of_ble_eq_true rfl) (fun p e s m args below meth c H locs hC hr hlk hnm hG ls hl => ?_)
  have hl : lv_has ls 5 [(0, .ref lg), (1, .ref lh), (2, .int (nI k0))] := hl
  have hx := hC.1.1
  have hb := hC.1.2.1
  have hts := hC.1.2.2.2.2
  have i1 : ∀ w ∈ wsX10, w ∈ wsX1_isLike := by decide +kernel
  have hnf := g_nf hs
  have hB := hJ.1
  have hL := hJ.2.1
  have hE := hJ.2.2.1
  have hL1 := hL g1 hg1
  have hL2 := hL g2 hg2
  refine n_iconst hC 1 dX1_isLike_0 ?_
  refine lv_istore_n (lv' := [(3, .int (nI 1)), (0, .ref lg), (1, .ref lh), (2, .int (nI k0))]) hx hb dX1_isLike_1 rfl hl (by decide) rfl (fun ls hl => ?_)
  have loop : ∀ (d : Nat) (j : Nat) (H : Heap) (locs : List Loc) (ls : Array Slot), k0 - j < d → j ≤ k0 → m_sm M g1 g2 (6 * j) = true → gw D cA A (cM b n X M P) s.heap H locs → lv_has ls 5 [(0, .ref lg), (1, .ref lh), (2, .int (nI k0)), (3, .int (nI (j + 1)))] → W p l e rmX1_isLike s m args below meth c H locs 0 0 (MQ below (mQ D cA A (fun w Y => w = some (.int (nI (c_sm M g1 g2 (6 * k0)))) ∧ Y = cM b n X M P)) args s rmX1_isLike.cells rmX1_isLike.slots A) (F0 m 2 ls []) := by
    intro d
    induction d with
    | zero => intro j H locs ls hd; exact absurd hd (Nat.not_lt_zero _)
    | succ d ih =>
      intro j H locs ls hd hj hsm hG hl
      refine lv_iload_n hx hb dX1_isLike_2 rfl (lv_at hl 3 rfl) ?_
      refine lv_iload_n hx hb dX1_isLike_3 rfl (lv_at hl 2 rfl) ?_
      refine n_gt (tgt := 48) hC dX1_isLike_4 (by decide) (by omega) (by omega) (fun c4 => ?_) (fun c4 => ?_)
      · have c4n := Nat.not_le.mpr c4
        refine n_iconst hC 1 dX1_isLike_48 ?_
        exact q_zret (v := 1) hC hG hr hlk (by first | decide | omega) (⟨by rw [c_sm, show k0 = j by omega, hsm, if_pos rfl], rfl⟩) dX1_isLike_49
      · have c4n := Nat.not_lt.mpr c4
        refine n_iconst hC 0 dX1_isLike_7 ?_
        refine lv_istore (lv' := [(4, .int (nI 0)), (0, .ref lg), (1, .ref lh), (2, .int (nI k0)), (3, .int (nI (j + 1)))]) hx hb dX1_isLike_8 hl (by decide) rfl (fun ls hl => ?_)
        have ih1 := ih
        have loop2 : ∀ (d : Nat) (w : Nat) (H : Heap) (locs : List Loc) (ls : Array Slot), 6 - w < d → w ≤ 6 → m_sm M g1 g2 (6 * j + w) = true → gw D cA A (cM b n X M P) s.heap H locs → lv_has ls 5 [(0, .ref lg), (1, .ref lh), (2, .int (nI k0)), (3, .int (nI (j + 1))), (4, .int (nI w))] → W p l e rmX1_isLike s m args below meth c H locs 0 0 (MQ below (mQ D cA A (fun w Y => w = some (.int (nI (c_sm M g1 g2 (6 * k0)))) ∧ Y = cM b n X M P)) args s rmX1_isLike.cells rmX1_isLike.slots A) (F0 m 10 ls []) := by
          intro d
          induction d with
          | zero => intro w H locs ls hd; exact absurd hd (Nat.not_lt_zero _)
          | succ d ih =>
            intro w H locs ls hd hw hsm hG hl
            refine lv_iload hx hb dX1_isLike_10 (lv_at hl 4 rfl) ?_
            refine n_bipush hC 6 (by decide) dX1_isLike_12 ?_
            refine n_ge (tgt := 42) hC dX1_isLike_14 (by decide) (by omega) (by omega) (fun c14 => ?_) (fun c14 => ?_)
            · have c14n := Nat.not_lt.mpr c14
              refine n_iinc (n := 1) (k := 3) (lv' := [(3, .int (nI ((j + 1) + 1))), (0, .ref lg), (1, .ref lh), (2, .int (nI k0)), (4, .int (nI w))]) hC dX1_isLike_42 hl rfl (by decide) rfl (fun ls hl => ?_)
              refine lv_goto (tgt := 2) hx hb dX1_isLike_45 (by decide) ?_
              exact ih1 (j + 1) _ _ _ (by omega) (by omega) (by rw [show 6 * (j + 1) = 6 * j + w by omega]; exact hsm) hG (lv_sub hl [1, 2, 3, 0] rfl)
            · have c14n := Nat.not_le.mpr c14
              refine lv_aload_n hx hb dX1_isLike_17 rfl (lv_at hl 0 rfl) ?_
              refine lv_iload_n hx hb dX1_isLike_18 rfl (lv_at hl 3 rfl) ?_
              refine lv_iload hx hb dX1_isLike_19 (lv_at hl 4 rfl) ?_
              refine q_callV (rest := []) (k_X1_field l D cA A hs hlg hL1.1 (nI (j + 1)) (nI w)) hC hG cF1 hlg.1 2 gX1_isLike_X1_field rfl (by decide +kernel) ⟨by decide, by decide⟩ rfl hl.1 rfl (by simp [Value.category]) dX1_isLike_21 ⟨Nat.le_of_ble_eq_true rfl, Nat.le_of_ble_eq_true rfl⟩ (fun v Y H locs hq hG => ?_)
              obtain ⟨rfl, rfl⟩ := hq
              rw [c_fld_s (by omega) (by omega) (by omega)]
              refine lv_aload_n hx hb dX1_isLike_24 rfl (lv_at hl 1 rfl) ?_
              refine lv_iload_n hx hb dX1_isLike_25 rfl (lv_at hl 3 rfl) ?_
              refine lv_iload hx hb dX1_isLike_26 (lv_at hl 4 rfl) ?_
              refine q_callV (rest := [.int (nI (M 2 (96 * g1 + 6 * j + w)))]) (k_X1_field l D cA A hs hlh hL2.1 (nI (j + 1)) (nI w)) hC hG cF1 hlh.1 2 gX1_isLike_X1_field rfl (by decide +kernel) ⟨by decide, by decide⟩ rfl hl.1 rfl (by simp [Value.category]) dX1_isLike_28 ⟨Nat.le_of_ble_eq_true rfl, Nat.le_of_ble_eq_true rfl⟩ (fun v Y H locs hq hG => ?_)
              obtain ⟨rfl, rfl⟩ := hq
              rw [c_fld_s (by omega) (by omega) (by omega)]
              refine lv_icmp_eq (tgt := 36) hx hb dX1_isLike_31 (by decide) (fun c31 => ?_) (fun c31 => ?_)
              · refine n_iinc (n := 1) (k := 4) (lv' := [(4, .int (nI (w + 1))), (0, .ref lg), (1, .ref lh), (2, .int (nI k0)), (3, .int (nI (j + 1)))]) hC dX1_isLike_36 hl rfl (by decide) rfl (fun ls hl => ?_)
                refine lv_goto (tgt := 10) hx hb dX1_isLike_39 (by decide) ?_
                exact ih (w + 1) _ _ _ (by omega) (by omega) (m_sm_s (k := 6 * j + w) hsm (by rw [← Nat.add_assoc, ← Nat.add_assoc]; exact c31)) hG (lv_sub hl [1, 2, 3, 4, 0] rfl)
              · refine n_iconst hC 0 dX1_isLike_34 ?_
                exact q_zret (v := 0) hC hG hr hlk (by first | decide | omega) (⟨by rw [c_sm, m_sm_no (k := 6 * j + w) (by rw [← Nat.add_assoc, ← Nat.add_assoc]; exact c31) _ (by omega)]; rfl, rfl⟩) dX1_isLike_35
        exact loop2 7 0 _ _ _ (by omega) (by omega) hsm hG (lv_sub hl [1, 2, 3, 4, 0] rfl)
  exact loop (k0 + 1) 0 _ _ _ (by omega) (by omega) rfl hG (lv_sub hl [1, 2, 3, 0] rfl)

abbrev rmX1_play : Room := { frames := 2, cells := 0, slots := 0, locals := 42 }
set_option maxHeartbeats 4000000 in
set_option maxRecDepth 100000 in
theorem k_X1_play (l : Launch) (D : va_G) (cA : Nat → ClassId) (A : Nat → Prop) {b n f : Nat} {X : Mem} {M : MM} {P : Nat → Nat} (hs : Sd b n f X M) (hJ : J M) {lg g0 i : Nat} (hlg : LogAt b n X lg M g0) (hg0 : g0 < 295) (hi : i < n) (h0 : ∀ x, x < 8 → iv X (na b i + 1) x = 0) : mt l D cA A yX1_play wsX1_play rmX1_play [.ref lg, .int (nI (M 4 g0)), .ref (na b i + 1)] (cM b n X M P) (fun w Y => w = none ∧ ∃ X1, Y = cM b n X1 M P ∧ Sd b n f X1 M ∧ go b n X X1 ∧ ∀ x, x < 8 → nI (iv X1 (na b i + 1) x) = rg (m_E M g0) (M 4 g0) x) := by
  refine q_start (by decide) rfl (Nat.le_of_ble_eq_true rfl) (fun p e s m args below meth c H locs hC hr hlk hnm hG ls hl => ?_)
  have hl : lv_has ls 6 [(0, .ref lg), (1, .int (nI (M 4 g0))), (2, .ref (na b i + 1))] := hl
  have hx := hC.1.1
  have hb := hC.1.2.1
  have hts := hC.1.2.2.2.2
  have i1 : ∀ w ∈ wsX10, w ∈ wsX1_play := by decide +kernel
  have hnf := g_nf hs
  have hB := hJ.1
  have hL := hJ.2.1
  have hE := hJ.2.2.1
  have hL0 := hL g0 hg0
  have hgo := go_rf b n X
  refine n_iconst hC 1 dX1_play_0 ?_
  refine lv_istore_n (lv' := [(3, .int (nI 1)), (0, .ref lg), (1, .int (nI (M 4 g0))), (2, .ref (na b i + 1))]) hx hb dX1_play_1 rfl hl (by decide) rfl (fun ls hl => ?_)
  have loop : ∀ (d : Nat) (k : Nat) (X1 : Mem) (H : Heap) (locs : List Loc) (ls : Array Slot), M 4 g0 - k < d → k ≤ M 4 g0 → Sd b n f X1 M → go b n X X1 → (∀ x, x < 8 → nI (iv X1 (na b i + 1) x) = rg (m_E M g0) k x) → gw D cA A (cM b n X1 M P) s.heap H locs → lv_has ls 6 [(0, .ref lg), (1, .int (nI (M 4 g0))), (2, .ref (na b i + 1)), (3, .int (nI (k + 1)))] → W p l e rmX1_play s m args below meth c H locs 0 0 (MQ below (mQ D cA A (fun w Y => w = none ∧ ∃ X1, Y = cM b n X1 M P ∧ Sd b n f X1 M ∧ go b n X X1 ∧ ∀ x, x < 8 → nI (iv X1 (na b i + 1) x) = rg (m_E M g0) (M 4 g0) x)) args s rmX1_play.cells rmX1_play.slots A) (F0 m 2 ls []) := by
    intro d
    induction d with
    | zero => intro k X1 H locs ls hd; exact absurd hd (Nat.not_lt_zero _)
    | succ d ih =>
      intro k X1 H locs ls hd hk hs hgo hR hG hl
      refine lv_iload_n hx hb dX1_play_2 rfl (lv_at hl 3 rfl) ?_
      refine lv_iload_n hx hb dX1_play_3 rfl (lv_at hl 1 rfl) ?_
      refine n_gt (tgt := 117) hC dX1_play_4 (by decide) (by omega) (by omega) (fun c4 => ?_) (fun c4 => ?_)
      · have c4n := Nat.not_le.mpr c4
        exact q_vret hC hG hr hlk (⟨rfl, X1, rfl, hs, hgo, fun x hx => by rw [hR x hx, show k = M 4 g0 by omega]⟩) dX1_play_117
      · have c4n := Nat.not_lt.mpr c4
        have ent := hE g0 k hg0 (by omega)
        refine lv_aload_n hx hb dX1_play_7 rfl (lv_at hl 0 rfl) ?_
        refine lv_iload_n hx hb dX1_play_8 rfl (lv_at hl 3 rfl) ?_
        refine n_iconst hC 3 dX1_play_9 ?_
        refine q_callV (rest := []) (k_X1_field l D cA A hs (hlg.go hgo) hL0.1 (nI (k + 1)) (nI 3)) hC hG cF1 (hlg.go hgo).1 2 gX1_play_X1_field rfl (by decide +kernel) ⟨by decide, by decide⟩ rfl hl.1 rfl (by simp [Value.category]) dX1_play_10 ⟨Nat.le_of_ble_eq_true rfl, Nat.le_of_ble_eq_true rfl⟩ (fun v Y H locs hq hG => ?_)
        obtain ⟨rfl, rfl⟩ := hq
        rw [c_fld_s (by omega) (by omega) (by omega)]
        refine lv_istore (lv' := [(4, .int (nI (M 2 (96 * g0 + 6 * k + 3)))), (0, .ref lg), (1, .int (nI (M 4 g0))), (2, .ref (na b i + 1)), (3, .int (nI (k + 1)))]) hx hb dX1_play_13 hl (by decide) rfl (fun ls hl => ?_)
        refine lv_aload_n hx hb dX1_play_15 rfl (lv_at hl 1 rfl) ?_
        refine lv_iload_n hx hb dX1_play_16 rfl (lv_at hl 4 rfl) ?_
        refine n_iconst hC 5 dX1_play_17 ?_
        refine q_callV (rest := []) (k_X1_field l D cA A hs (hlg.go hgo) hL0.1 (nI (k + 1)) (nI 5)) hC hG cF1 (hlg.go hgo).1 2 gX1_play_X1_field rfl (by decide +kernel) ⟨by decide, by decide⟩ rfl hl.1 rfl (by simp [Value.category]) dX1_play_18 ⟨Nat.le_of_ble_eq_true rfl, Nat.le_of_ble_eq_true rfl⟩ (fun v Y H locs hq hG => ?_)
        obtain ⟨rfl, rfl⟩ := hq
        rw [c_fld_s (by omega) (by omega) (by omega)]
        refine lv_istore (lv' := [(5, .int (nI (M 2 (96 * g0 + 6 * k + 5)))), (4, .int (nI (M 2 (96 * g0 + 6 * k + 3)))), (0, .ref lg), (1, .int (nI (M 4 g0))), (2, .ref (na b i + 1)), (3, .int (nI (k + 1)))]) hx hb dX1_play_21 hl (by decide) rfl (fun ls hl => ?_)
        refine lv_aload_n hx hb dX1_play_23 rfl (lv_at hl 2 rfl) ?_
        refine lv_iload_n hx hb dX1_play_24 rfl (lv_at hl 5 rfl) ?_
        refine n_iconst hC 2 dX1_play_25 ?_
        refine q_callV (rest := []) (k_X1_field l D cA A hs (hlg.go hgo) hL0.1 (nI (k + 1)) (nI 2)) hC hG cF1 (hlg.go hgo).1 2 gX1_play_X1_field rfl (by decide +kernel) ⟨by decide, by decide⟩ rfl hl.1 rfl (by simp [Value.category]) dX1_play_26 ⟨Nat.le_of_ble_eq_true rfl, Nat.le_of_ble_eq_true rfl⟩ (fun v Y H locs hq hG => ?_)
        obtain ⟨rfl, rfl⟩ := hq
        rw [c_fld_s (by omega) (by omega) (by omega)]
        by_cases c29x0 : M 2 (96 * g0 + 6 * k + 2) = 0
        · refine lv_tableIn (off := 27) (tgt := 56) hx hb dX1_play_29 (by rw [c29x0]; decide +kernel) (by rw [c29x0]; decide +kernel) (by rw [c29x0]; decide +kernel) (by decide) ?_
          refine lv_aload_n hx hb dX1_play_56 rfl (lv_at hl 4 rfl) ?_
          refine lv_iload hx hb dX1_play_57 (lv_at hl 1 rfl) ?_
          refine lv_iload hx hb dX1_play_59 (lv_at hl 0 rfl) ?_
          refine q_iast hC hG (n := 8) (show kd X1 (na b i + 1) = 7 ∧ ln X1 (na b i + 1) = 8 from ⟨(hs.1.2.2.2.2.2.1 i (by omega)).2.2.1, (hs.1.2.2.2.2.2.1 i (by omega)).2.2.2.1⟩).1 (show kd X1 (na b i + 1) = 7 ∧ ln X1 (na b i + 1) = 8 from ⟨(hs.1.2.2.2.2.2.1 i (by omega)).2.2.1, (hs.1.2.2.2.2.2.1 i (by omega)).2.2.2.1⟩).2 (by omega) (by omega) dX1_play_61 (fun H locs hG => ?_)
          rw [cM_reg hi] at hG
          obtain ⟨hs, hgr⟩ := Sd_reg (k := M 2 (96 * g0 + 6 * k + 3)) (v := M 2 (96 * g0 + 6 * k + 5)) hs hi
          have hgo := go_tr hgo hgr
          refine lv_goto (tgt := 111) hx hb dX1_play_62 (by decide) ?_
          refine n_iinc (n := 1) (k := 5) (lv' := [(3, .int (nI ((k + 1) + 1))), (5, .int (nI (M 2 (96 * g0 + 6 * k + 5)))), (4, .int (nI (M 2 (96 * g0 + 6 * k + 3)))), (0, .ref lg), (1, .int (nI (M 4 g0))), (2, .ref (na b i + 1))]) hC dX1_play_111 hl rfl (by decide) rfl (fun ls hl => ?_)
          refine lv_goto (tgt := 2) hx hb dX1_play_114 (by decide) ?_
          refine ih (k + 1) _ _ _ _ (by omega) (by omega) hs hgo (fun x hx => ?_) hG (lv_sub hl [3, 4, 5, 0] rfl)
          have e3 : m_E M g0 k 3 = M 2 (96 * g0 + 6 * k + 3) := rfl
          have e4 : m_E M g0 k 4 = M 2 (96 * g0 + 6 * k + 4) := rfl
          have e5 : m_E M g0 k 5 = M 2 (96 * g0 + 6 * k + 5) := rfl
          have e2 : m_E M g0 k 2 = M 2 (96 * g0 + 6 * k + 2) := rfl
          simp only [rg, e2, e3, e4, e5, if_pos c29x0, ↓reduceIte]
          have hx0 := hR x hx
          have hx1 := hR (M 2 (96 * g0 + 6 * k + 3)) (by omega)
          have hx2 := hR (M 2 (96 * g0 + 6 * k + 4)) (by omega)
          simp only [iv_row, va_up]
          split <;> (try split) <;> (try split) <;> simp_all [nI_tN, ← nI_add]
        by_cases c29x1 : M 2 (96 * g0 + 6 * k + 2) = 1
        · refine lv_tableIn (off := 36) (tgt := 65) hx hb dX1_play_29 (by rw [c29x1]; decide +kernel) (by rw [c29x1]; decide +kernel) (by rw [c29x1]; decide +kernel) (by decide) ?_
          refine lv_aload_n hx hb dX1_play_65 rfl (lv_at hl 4 rfl) ?_
          refine lv_iload hx hb dX1_play_66 (lv_at hl 1 rfl) ?_
          refine lv_dup2_11 hx hb dX1_play_68 rfl rfl ?_
          refine q_iw (w := iv X1 (na b i + 1) (M 2 (96 * g0 + 6 * k + 3))) hC hG (show kd X1 (na b i + 1) = 7 ∧ ln X1 (na b i + 1) = 8 from ⟨(hs.1.2.2.2.2.2.1 i (by omega)).2.2.1, (hs.1.2.2.2.2.2.1 i (by omega)).2.2.2.1⟩).1 (show kd X1 (na b i + 1) = 7 ∧ ln X1 (na b i + 1) = 8 from ⟨(hs.1.2.2.2.2.2.1 i (by omega)).2.2.1, (hs.1.2.2.2.2.2.1 i (by omega)).2.2.2.1⟩).2 (by omega) (by omega) (cM_r1 hi _ _ _ _) dX1_play_69 ?_
          refine lv_iload hx hb dX1_play_70 (lv_at hl 0 rfl) ?_
          refine n_iadd hC dX1_play_72 ?_
          refine q_iast hC hG (n := 8) (show kd X1 (na b i + 1) = 7 ∧ ln X1 (na b i + 1) = 8 from ⟨(hs.1.2.2.2.2.2.1 i (by omega)).2.2.1, (hs.1.2.2.2.2.2.1 i (by omega)).2.2.2.1⟩).1 (show kd X1 (na b i + 1) = 7 ∧ ln X1 (na b i + 1) = 8 from ⟨(hs.1.2.2.2.2.2.1 i (by omega)).2.2.1, (hs.1.2.2.2.2.2.1 i (by omega)).2.2.2.1⟩).2 (by omega) (by omega) dX1_play_73 (fun H locs hG => ?_)
          rw [cM_reg hi] at hG
          obtain ⟨hs, hgr⟩ := Sd_reg (k := M 2 (96 * g0 + 6 * k + 3)) (v := (iv X1 (na b i + 1) (M 2 (96 * g0 + 6 * k + 3))) + (M 2 (96 * g0 + 6 * k + 5))) hs hi
          have hgo := go_tr hgo hgr
          refine lv_goto (tgt := 111) hx hb dX1_play_74 (by decide) ?_
          refine n_iinc (n := 1) (k := 5) (lv' := [(3, .int (nI ((k + 1) + 1))), (5, .int (nI (M 2 (96 * g0 + 6 * k + 5)))), (4, .int (nI (M 2 (96 * g0 + 6 * k + 3)))), (0, .ref lg), (1, .int (nI (M 4 g0))), (2, .ref (na b i + 1))]) hC dX1_play_111 hl rfl (by decide) rfl (fun ls hl => ?_)
          refine lv_goto (tgt := 2) hx hb dX1_play_114 (by decide) ?_
          refine ih (k + 1) _ _ _ _ (by omega) (by omega) hs hgo (fun x hx => ?_) hG (lv_sub hl [3, 4, 5, 0] rfl)
          have e3 : m_E M g0 k 3 = M 2 (96 * g0 + 6 * k + 3) := rfl
          have e4 : m_E M g0 k 4 = M 2 (96 * g0 + 6 * k + 4) := rfl
          have e5 : m_E M g0 k 5 = M 2 (96 * g0 + 6 * k + 5) := rfl
          have e2 : m_E M g0 k 2 = M 2 (96 * g0 + 6 * k + 2) := rfl
          simp only [rg, e2, e3, e4, e5, if_neg c29x0, if_pos c29x1, ↓reduceIte]
          have hx0 := hR x hx
          have hx1 := hR (M 2 (96 * g0 + 6 * k + 3)) (by omega)
          have hx2 := hR (M 2 (96 * g0 + 6 * k + 4)) (by omega)
          simp only [iv_row, va_up]
          split <;> (try split) <;> (try split) <;> simp_all [nI_tN, ← nI_add]
        by_cases c29x2 : M 2 (96 * g0 + 6 * k + 2) = 2
        · refine lv_tableIn (off := 48) (tgt := 77) hx hb dX1_play_29 (by rw [c29x2]; decide +kernel) (by rw [c29x2]; decide +kernel) (by rw [c29x2]; decide +kernel) (by decide) ?_
          refine lv_aload_n hx hb dX1_play_77 rfl (lv_at hl 4 rfl) ?_
          refine lv_iload hx hb dX1_play_78 (lv_at hl 1 rfl) ?_
          refine q_iw (w := iv X1 (na b i + 1) (M 2 (96 * g0 + 6 * k + 3))) hC hG (show kd X1 (na b i + 1) = 7 ∧ ln X1 (na b i + 1) = 8 from ⟨(hs.1.2.2.2.2.2.1 i (by omega)).2.2.1, (hs.1.2.2.2.2.2.1 i (by omega)).2.2.2.1⟩).1 (show kd X1 (na b i + 1) = 7 ∧ ln X1 (na b i + 1) = 8 from ⟨(hs.1.2.2.2.2.2.1 i (by omega)).2.2.1, (hs.1.2.2.2.2.2.1 i (by omega)).2.2.2.1⟩).2 (by omega) (by omega) (cM_r1 hi _ _ _ _) dX1_play_80 ?_
          refine lv_iload hx hb dX1_play_81 (lv_at hl 0 rfl) ?_
          refine lv_icmp_lt (tgt := 111) hx hb dX1_play_83 (by decide) (fun c83 => ?_) (fun c83 => ?_)
          · refine n_iinc (n := 1) (k := 5) (lv' := [(3, .int (nI ((k + 1) + 1))), (5, .int (nI (M 2 (96 * g0 + 6 * k + 5)))), (4, .int (nI (M 2 (96 * g0 + 6 * k + 3)))), (0, .ref lg), (1, .int (nI (M 4 g0))), (2, .ref (na b i + 1))]) hC dX1_play_111 hl rfl (by decide) rfl (fun ls hl => ?_)
            refine lv_goto (tgt := 2) hx hb dX1_play_114 (by decide) ?_
            refine ih (k + 1) _ _ _ _ (by omega) (by omega) hs hgo (fun x hx => ?_) hG (lv_sub hl [3, 4, 5, 0] rfl)
            have e3 : m_E M g0 k 3 = M 2 (96 * g0 + 6 * k + 3) := rfl
            have e4 : m_E M g0 k 4 = M 2 (96 * g0 + 6 * k + 4) := rfl
            have e5 : m_E M g0 k 5 = M 2 (96 * g0 + 6 * k + 5) := rfl
            have e2 : m_E M g0 k 2 = M 2 (96 * g0 + 6 * k + 2) := rfl
            rw [hR _ (by omega)] at c83
            simp only [rg, e2, e3, e4, e5, if_neg c29x0, if_neg c29x1, if_pos c83, ↓reduceIte]
            exact hR x hx
          · refine lv_aload_n hx hb dX1_play_86 rfl (lv_at hl 4 rfl) ?_
            refine lv_iload hx hb dX1_play_87 (lv_at hl 1 rfl) ?_
            refine lv_dup2_11 hx hb dX1_play_89 rfl rfl ?_
            refine q_iw (w := iv X1 (na b i + 1) (M 2 (96 * g0 + 6 * k + 3))) hC hG (show kd X1 (na b i + 1) = 7 ∧ ln X1 (na b i + 1) = 8 from ⟨(hs.1.2.2.2.2.2.1 i (by omega)).2.2.1, (hs.1.2.2.2.2.2.1 i (by omega)).2.2.2.1⟩).1 (show kd X1 (na b i + 1) = 7 ∧ ln X1 (na b i + 1) = 8 from ⟨(hs.1.2.2.2.2.2.1 i (by omega)).2.2.1, (hs.1.2.2.2.2.2.1 i (by omega)).2.2.2.1⟩).2 (by omega) (by omega) (cM_r1 hi _ _ _ _) dX1_play_90 ?_
            refine lv_iload hx hb dX1_play_91 (lv_at hl 0 rfl) ?_
            refine lv_isub hx hb dX1_play_93 ?_
            rw [show (nI (iv X1 (na b i + 1) (M 2 (96 * g0 + 6 * k + 3)))) - (nI (M 2 (96 * g0 + 6 * k + 5))) = nI (tN ((nI (iv X1 (na b i + 1) (M 2 (96 * g0 + 6 * k + 3)))) - (nI (M 2 (96 * g0 + 6 * k + 5))))) from (nI_tN _).symm]
            refine q_iast hC hG (n := 8) (show kd X1 (na b i + 1) = 7 ∧ ln X1 (na b i + 1) = 8 from ⟨(hs.1.2.2.2.2.2.1 i (by omega)).2.2.1, (hs.1.2.2.2.2.2.1 i (by omega)).2.2.2.1⟩).1 (show kd X1 (na b i + 1) = 7 ∧ ln X1 (na b i + 1) = 8 from ⟨(hs.1.2.2.2.2.2.1 i (by omega)).2.2.1, (hs.1.2.2.2.2.2.1 i (by omega)).2.2.2.1⟩).2 (by omega) (by omega) dX1_play_94 (fun H locs hG => ?_)
            rw [cM_reg hi] at hG
            obtain ⟨hs, hgr⟩ := Sd_reg (k := M 2 (96 * g0 + 6 * k + 3)) (v := tN ((nI (iv X1 (na b i + 1) (M 2 (96 * g0 + 6 * k + 3)))) - (nI (M 2 (96 * g0 + 6 * k + 5))))) hs hi
            have hgo := go_tr hgo hgr
            refine lv_aload_n hx hb dX1_play_95 rfl (lv_at hl 4 rfl) ?_
            refine lv_aload_n hx hb dX1_play_96 rfl (lv_at hl 2 rfl) ?_
            refine lv_iload_n hx hb dX1_play_97 rfl (lv_at hl 5 rfl) ?_
            refine n_iconst hC 4 dX1_play_98 ?_
            refine q_callV (rest := [.ref (na b i + 1)]) (k_X1_field l D cA A hs (hlg.go hgo) hL0.1 (nI (k + 1)) (nI 4)) hC hG cF1 (hlg.go hgo).1 2 gX1_play_X1_field rfl (by decide +kernel) ⟨by decide, by decide⟩ rfl hl.1 rfl (by simp [Value.category]) dX1_play_99 ⟨Nat.le_of_ble_eq_true rfl, Nat.le_of_ble_eq_true rfl⟩ (fun v Y H locs hq hG => ?_)
            obtain ⟨rfl, rfl⟩ := hq
            rw [c_fld_s (by omega) (by omega) (by omega)]
            refine lv_dup2_11 hx hb dX1_play_102 rfl rfl ?_
            refine q_iw (w := iv (wI X1 (na b i + 1) (M 2 (96 * g0 + 6 * k + 3)) (tN ((nI (iv X1 (na b i + 1) (M 2 (96 * g0 + 6 * k + 3)))) - (nI (M 2 (96 * g0 + 6 * k + 5)))))) (na b i + 1) (M 2 (96 * g0 + 6 * k + 4))) hC hG (show kd (wI X1 (na b i + 1) (M 2 (96 * g0 + 6 * k + 3)) (tN ((nI (iv X1 (na b i + 1) (M 2 (96 * g0 + 6 * k + 3)))) - (nI (M 2 (96 * g0 + 6 * k + 5)))))) (na b i + 1) = 7 ∧ ln (wI X1 (na b i + 1) (M 2 (96 * g0 + 6 * k + 3)) (tN ((nI (iv X1 (na b i + 1) (M 2 (96 * g0 + 6 * k + 3)))) - (nI (M 2 (96 * g0 + 6 * k + 5)))))) (na b i + 1) = 8 from ⟨(hs.1.2.2.2.2.2.1 i (by omega)).2.2.1, (hs.1.2.2.2.2.2.1 i (by omega)).2.2.2.1⟩).1 (show kd (wI X1 (na b i + 1) (M 2 (96 * g0 + 6 * k + 3)) (tN ((nI (iv X1 (na b i + 1) (M 2 (96 * g0 + 6 * k + 3)))) - (nI (M 2 (96 * g0 + 6 * k + 5)))))) (na b i + 1) = 7 ∧ ln (wI X1 (na b i + 1) (M 2 (96 * g0 + 6 * k + 3)) (tN ((nI (iv X1 (na b i + 1) (M 2 (96 * g0 + 6 * k + 3)))) - (nI (M 2 (96 * g0 + 6 * k + 5)))))) (na b i + 1) = 8 from ⟨(hs.1.2.2.2.2.2.1 i (by omega)).2.2.1, (hs.1.2.2.2.2.2.1 i (by omega)).2.2.2.1⟩).2 (by omega) (by omega) (cM_r1 hi _ _ _ _) dX1_play_103 ?_
            refine lv_iload hx hb dX1_play_104 (lv_at hl 0 rfl) ?_
            refine n_iadd hC dX1_play_106 ?_
            refine q_iast hC hG (n := 8) (show kd (wI X1 (na b i + 1) (M 2 (96 * g0 + 6 * k + 3)) (tN ((nI (iv X1 (na b i + 1) (M 2 (96 * g0 + 6 * k + 3)))) - (nI (M 2 (96 * g0 + 6 * k + 5)))))) (na b i + 1) = 7 ∧ ln (wI X1 (na b i + 1) (M 2 (96 * g0 + 6 * k + 3)) (tN ((nI (iv X1 (na b i + 1) (M 2 (96 * g0 + 6 * k + 3)))) - (nI (M 2 (96 * g0 + 6 * k + 5)))))) (na b i + 1) = 8 from ⟨(hs.1.2.2.2.2.2.1 i (by omega)).2.2.1, (hs.1.2.2.2.2.2.1 i (by omega)).2.2.2.1⟩).1 (show kd (wI X1 (na b i + 1) (M 2 (96 * g0 + 6 * k + 3)) (tN ((nI (iv X1 (na b i + 1) (M 2 (96 * g0 + 6 * k + 3)))) - (nI (M 2 (96 * g0 + 6 * k + 5)))))) (na b i + 1) = 7 ∧ ln (wI X1 (na b i + 1) (M 2 (96 * g0 + 6 * k + 3)) (tN ((nI (iv X1 (na b i + 1) (M 2 (96 * g0 + 6 * k + 3)))) - (nI (M 2 (96 * g0 + 6 * k + 5)))))) (na b i + 1) = 8 from ⟨(hs.1.2.2.2.2.2.1 i (by omega)).2.2.1, (hs.1.2.2.2.2.2.1 i (by omega)).2.2.2.1⟩).2 (by omega) (by omega) dX1_play_107 (fun H locs hG => ?_)
            rw [cM_reg hi] at hG
            obtain ⟨hs, hgr⟩ := Sd_reg (k := M 2 (96 * g0 + 6 * k + 4)) (v := (iv (wI X1 (na b i + 1) (M 2 (96 * g0 + 6 * k + 3)) (tN ((nI (iv X1 (na b i + 1) (M 2 (96 * g0 + 6 * k + 3)))) - (nI (M 2 (96 * g0 + 6 * k + 5)))))) (na b i + 1) (M 2 (96 * g0 + 6 * k + 4))) + (M 2 (96 * g0 + 6 * k + 5))) hs hi
            have hgo := go_tr hgo hgr
            refine lv_goto (tgt := 111) hx hb dX1_play_108 (by decide) ?_
            refine n_iinc (n := 1) (k := 5) (lv' := [(3, .int (nI ((k + 1) + 1))), (5, .int (nI (M 2 (96 * g0 + 6 * k + 5)))), (4, .int (nI (M 2 (96 * g0 + 6 * k + 3)))), (0, .ref lg), (1, .int (nI (M 4 g0))), (2, .ref (na b i + 1))]) hC dX1_play_111 hl rfl (by decide) rfl (fun ls hl => ?_)
            refine lv_goto (tgt := 2) hx hb dX1_play_114 (by decide) ?_
            refine ih (k + 1) _ _ _ _ (by omega) (by omega) hs hgo (fun x hx => ?_) hG (lv_sub hl [3, 4, 5, 0] rfl)
            have e3 : m_E M g0 k 3 = M 2 (96 * g0 + 6 * k + 3) := rfl
            have e4 : m_E M g0 k 4 = M 2 (96 * g0 + 6 * k + 4) := rfl
            have e5 : m_E M g0 k 5 = M 2 (96 * g0 + 6 * k + 5) := rfl
            have e2 : m_E M g0 k 2 = M 2 (96 * g0 + 6 * k + 2) := rfl
            rw [hR _ (by omega)] at c83
            simp only [rg, e2, e3, e4, e5, if_neg c29x0, if_neg c29x1, if_neg c83, ↓reduceIte]
            have hx0 := hR x hx
            have hx1 := hR (M 2 (96 * g0 + 6 * k + 3)) (by omega)
            have hx2 := hR (M 2 (96 * g0 + 6 * k + 4)) (by omega)
            simp only [iv_row, va_up]
            split <;> (try split) <;> (try split) <;> simp_all [nI_tN, ← nI_add]
        refine lv_tableOut (tgt := 111) hx hb dX1_play_29 (by rw [nI_toInt (by omega)]; omega) (by decide) ?_
        refine n_iinc (n := 1) (k := 5) (lv' := [(3, .int (nI ((k + 1) + 1))), (5, .int (nI (M 2 (96 * g0 + 6 * k + 5)))), (4, .int (nI (M 2 (96 * g0 + 6 * k + 3)))), (0, .ref lg), (1, .int (nI (M 4 g0))), (2, .ref (na b i + 1))]) hC dX1_play_111 hl rfl (by decide) rfl (fun ls hl => ?_)
        refine lv_goto (tgt := 2) hx hb dX1_play_114 (by decide) ?_
        exact absurd ent.2.2.1 (by omega)
  exact loop (M 4 g0 + 1) 0 X _ _ _ (by omega) (by omega) hs hgo (fun x hx => by rw [h0 x hx]; rfl) hG (lv_sub hl [1, 2, 3, 0] rfl)

abbrev rmX2_workOutRegisters : Room := { frames := 3, cells := 0, slots := 0, locals := 67 }
set_option maxHeartbeats 4000000 in
set_option maxRecDepth 100000 in
theorem k_X2_workOutRegisters (l : Launch) (D : va_G) (cA : Nat → ClassId) (A : Nat → Prop) {b n f : Nat} {X : Mem} {M : MM} {P : Nat → Nat} (hs : Sd b n f X M) (hJ : J M) {i : Nat} (hi : i < n) : mt l D cA A yX2_workOutRegisters wsX2_workOutRegisters rmX2_workOutRegisters [.ref (na b i)] (cM b n X M P) (fun w Y => w = some (.ref (na b i + 1)) ∧ ∃ X1, Y = cM b n X1 M P ∧ Sd b n f X1 M ∧ go b n X X1 ∧ ∀ x, x < 8 → nI (iv X1 (na b i + 1) x) = rg (m_E M i) (M 4 i) x) := by
  refine q_start (by decide) rfl (Nat.le_of_ble_eq_true rfl) (fun p e s m args below meth c H locs hC hr hlk hnm hG ls hl => ?_)
  have hl : lv_has ls 1 [(0, .ref (na b i))] := hl
  have hx := hC.1.1
  have hb := hC.1.2.1
  have hts := hC.1.2.2.2.2
  have i2 : ∀ w ∈ wsX20, w ∈ wsX2_workOutRegisters := by decide +kernel
  have hnf := g_nf hs
  have hB := hJ.1
  have hL := hJ.2.1
  have hE := hJ.2.2.1
  have hgo := go_rf b n X
  have k9 := hts (.fieldLink RX2 9 "ViewStamps$Node" "registers" "[I") (by decide +kernel)
  have k33 := hts (.fieldLink RX2 33 "ViewStamps$Node" "log" "LViewStamps$Log;") (by decide +kernel)
  have k62 := hts (.fieldLink RX2 62 "ViewStamps$Node" "sure" "I") (by decide +kernel)
  refine lv_aload_n hx hb dX2_workOutRegisters_0 rfl (lv_at hl 0 rfl) ?_
  refine q_getr hC hG cF2 i2 (g_kn hs (by omega)) 7 (by decide) rfl (hs.1.2.2.2.2.2.1 i (by omega)).2.1.2.2.2.2.1 k9 dX2_workOutRegisters_1 ?_
  refine n_iconst hC 0 dX2_workOutRegisters_4 ?_
  refine q_callS (rest := []) (k_J7_fill_53178 l D cA A (Z := cM b n X M P) (a := na b i + 1) (z0 := 8) 0 (show kd X (na b i + 1) = 7 ∧ ln X (na b i + 1) = 8 from ⟨(hs.1.2.2.2.2.2.1 i (by omega)).2.2.1, (hs.1.2.2.2.2.2.1 i (by omega)).2.2.2.1⟩).1 (show kd X (na b i + 1) = 7 ∧ ln X (na b i + 1) = 8 from ⟨(hs.1.2.2.2.2.2.1 i (by omega)).2.2.1, (hs.1.2.2.2.2.2.1 i (by omega)).2.2.2.1⟩).2 (by omega)) hC hG 2 gX2_workOutRegisters_J7_fill_53178 rfl (by decide +kernel) ⟨by decide, by decide⟩ rfl hl.1 rfl (by simp [Value.category]) dX2_workOutRegisters_5 ⟨Nat.le_of_ble_eq_true rfl, Nat.le_of_ble_eq_true rfl⟩ (fun v Y H locs hq hG => ?_)
  obtain ⟨rfl, rfl⟩ := hq
  rw [cM_fr1 (by omega)] at hG
  obtain ⟨hs, hgf⟩ := Sd_fr1 (i := i) hs (by omega) 8
  have hgo := go_tr hgo hgf
  refine lv_aload_n hx hb dX2_workOutRegisters_8 rfl (lv_at hl 0 rfl) ?_
  obtain ⟨lgn1, hlgn1a, hlgn1⟩ := hs.2.2.2.1 i (by omega)
  have hLlgn1 := hL i (by omega)
  refine q_getr hC hG cF2 i2 (g_kn hs (by omega)) 12 (by decide) rfl hlgn1a k33 dX2_workOutRegisters_9 ?_
  refine lv_aload_n hx hb dX2_workOutRegisters_12 rfl (lv_at hl 0 rfl) ?_
  refine q_gw (w := M 4 i) hC hG cF2 i2 (g_kn hs (by omega)) 11 (by decide) rfl (g_n11 (by omega)) k62 dX2_workOutRegisters_13 ?_
  have b2 : M 4 i < 2147483648 := by have := hB.1 4 i rfl; first | exact this | (simp [up2, m_cp, m_cpk] at this; exact this) | omega
  refine lv_aload_n hx hb dX2_workOutRegisters_16 rfl (lv_at hl 0 rfl) ?_
  refine q_getr hC hG cF2 i2 (g_kn hs (by omega)) 7 (by decide) rfl (hs.1.2.2.2.2.2.1 i (by omega)).2.1.2.2.2.2.1 k9 dX2_workOutRegisters_17 ?_
  refine q_callV (rest := []) (k_X1_play l D cA A hs hJ (g0 := i) (i := i) hlgn1 (by omega) (by omega) (fun x hx => fl_at X _ hx)) hC hG cF1 hlgn1.1 2 gX2_workOutRegisters_X1_play rfl (by decide +kernel) ⟨by decide, by decide⟩ rfl hl.1 rfl (by simp [Value.category]) dX2_workOutRegisters_20 ⟨Nat.le_of_ble_eq_true rfl, Nat.le_of_ble_eq_true rfl⟩ (fun v Y H locs hq hG => ?_)
  obtain ⟨rfl, Xy, rfl, hs, hgy, hreg⟩ := hq
  have hgo := go_tr hgo hgy
  refine lv_aload_n hx hb dX2_workOutRegisters_23 rfl (lv_at hl 0 rfl) ?_
  refine q_getr hC hG cF2 i2 (g_kn hs (by omega)) 7 (by decide) rfl (hs.1.2.2.2.2.2.1 i (by omega)).2.1.2.2.2.2.1 k9 dX2_workOutRegisters_24 ?_
  exact q_aret (v := (some (na b i + 1))) hC hG hr (by first | exact Or.inl ⟨_, rfl⟩ | exact Or.inr ⟨_, rfl⟩) hlk (⟨rfl, Xy, rfl, hs, hgo, hreg⟩) dX2_workOutRegisters_27

abbrev rmX0_field : Room := { frames := 1, cells := 0, slots := 0, locals := 20 }
set_option maxHeartbeats 4000000 in
set_option maxRecDepth 100000 in
theorem k_X0_field (l : Launch) (D : va_G) (cA : Nat → ClassId) (A : Nat → Prop) {b n f : Nat} {X : Mem} {M : MM} {P : Nat → Nat} (hs : Sd b n f X M) (hJ : J M) {q l0 : Nat} (hq : Lt b n X M l0 q) (hl0 : l0 < 240) (what : Int32) : mt l D cA A yX0_field wsX0_field rmX0_field [.ref q, .int what] (cM b n X M P) (fun w Y => w = some (.int (m_lf M l0 what)) ∧ Y = cM b n X M P) := by
  refine q_start (by decide) rfl (Nat.le_of_ble_eq_true rfl) (fun p e s m args below meth c H locs hC hr hlk hnm hG ls hl => ?_)
  have hl : lv_has ls 2 [(0, .ref q), (1, .int what)] := hl
  have hx := hC.1.1
  have hb := hC.1.2.1
  have hts := hC.1.2.2.2.2
  have i0 : ∀ w ∈ wsX00, w ∈ wsX0_field := by decide +kernel
  have hnf := g_nf hs
  have hB := hJ.1
  have hL := hJ.2.1
  have hE := hJ.2.2.1
  obtain ⟨lg, M2, g2, s2, hr6, hlg2, hL2, hsz, hi4, hsu⟩ := Lt_lg hs hL hq hl0
  have k9 := hts (.fieldLink RX0 9 "ViewStamps$Letter" "from" "I") (by decide +kernel)
  have k15 := hts (.fieldLink RX0 15 "ViewStamps$Letter" "to" "I") (by decide +kernel)
  have k18 := hts (.fieldLink RX0 18 "ViewStamps$Letter" "sort" "I") (by decide +kernel)
  have k21 := hts (.fieldLink RX0 21 "ViewStamps$Letter" "view" "I") (by decide +kernel)
  have k24 := hts (.fieldLink RX0 24 "ViewStamps$Letter" "log" "LViewStamps$Log;") (by decide +kernel)
  have k28 := hts (.fieldLink RX0 28 "ViewStamps$Letter" "sure" "I") (by decide +kernel)
  have k31 := hts (.fieldLink RX0 31 "ViewStamps$Letter" "count" "I") (by decide +kernel)
  have k40 := hts (.fieldLink RX0 40 "ViewStamps$Letter" "dropped" "Z") (by decide +kernel)
  refine lv_iload_n hx hb dX0_field_0 rfl (lv_at hl 1 rfl) ?_
  by_cases c1x0 : what = nI 0
  · refine lv_tableIn (off := 47) (tgt := 48) hx hb dX0_field_1 (by rw [c1x0]; decide +kernel) (by rw [c1x0]; decide +kernel) (by rw [c1x0]; decide +kernel) (by decide) ?_
    refine lv_aload_n hx hb dX0_field_48 rfl (lv_at hl 0 rfl) ?_
    refine q_gw (w := M 19 l0) hC hG cF0 i0 hq.1.1 0 (by decide) rfl ((g_iv hs (Or.inl hq.1.1) 0).trans hq.1.2.1) k9 dX0_field_49 ?_
    have bl0 := hB.1 19 l0 rfl
    exact q_iret (v := (nI (M 19 l0))) hC hG hr hlk (⟨by simp only [m_lf, if_pos c1x0], rfl⟩) dX0_field_52
  by_cases c1x1 : what = nI 1
  · refine lv_tableIn (off := 52) (tgt := 53) hx hb dX0_field_1 (by rw [c1x1]; decide +kernel) (by rw [c1x1]; decide +kernel) (by rw [c1x1]; decide +kernel) (by decide) ?_
    refine lv_aload_n hx hb dX0_field_53 rfl (lv_at hl 0 rfl) ?_
    refine q_gw (w := M 20 l0) hC hG cF0 i0 hq.1.1 1 (by decide) rfl ((g_iv hs (Or.inl hq.1.1) 1).trans hq.1.2.2.1) k15 dX0_field_54 ?_
    have bl1 := hB.1 20 l0 rfl
    exact q_iret (v := (nI (M 20 l0))) hC hG hr hlk (⟨by simp only [m_lf, if_neg c1x0, if_pos c1x1], rfl⟩) dX0_field_57
  by_cases c1x2 : what = nI 2
  · refine lv_tableIn (off := 57) (tgt := 58) hx hb dX0_field_1 (by rw [c1x2]; decide +kernel) (by rw [c1x2]; decide +kernel) (by rw [c1x2]; decide +kernel) (by decide) ?_
    refine lv_aload_n hx hb dX0_field_58 rfl (lv_at hl 0 rfl) ?_
    refine q_gw (w := M 21 l0) hC hG cF0 i0 hq.1.1 2 (by decide) rfl ((g_iv hs (Or.inl hq.1.1) 2).trans hq.1.2.2.2.1) k18 dX0_field_59 ?_
    have bl2 := hB.1 21 l0 rfl
    exact q_iret (v := (nI (M 21 l0))) hC hG hr hlk (⟨by simp only [m_lf, if_neg c1x0, if_neg c1x1, if_pos c1x2], rfl⟩) dX0_field_62
  by_cases c1x3 : what = nI 3
  · refine lv_tableIn (off := 62) (tgt := 63) hx hb dX0_field_1 (by rw [c1x3]; decide +kernel) (by rw [c1x3]; decide +kernel) (by rw [c1x3]; decide +kernel) (by decide) ?_
    refine lv_aload_n hx hb dX0_field_63 rfl (lv_at hl 0 rfl) ?_
    refine q_gw (w := M 22 l0) hC hG cF0 i0 hq.1.1 3 (by decide) rfl ((g_iv hs (Or.inl hq.1.1) 3).trans hq.1.2.2.2.2.1) k21 dX0_field_64 ?_
    have bl3 := hB.1 22 l0 rfl
    exact q_iret (v := (nI (M 22 l0))) hC hG hr hlk (⟨by simp only [m_lf, if_neg c1x0, if_neg c1x1, if_neg c1x2, if_pos c1x3], rfl⟩) dX0_field_67
  by_cases c1x4 : what = nI 4
  · refine lv_tableIn (off := 67) (tgt := 68) hx hb dX0_field_1 (by rw [c1x4]; decide +kernel) (by rw [c1x4]; decide +kernel) (by rw [c1x4]; decide +kernel) (by decide) ?_
    refine lv_aload_n hx hb dX0_field_68 rfl (lv_at hl 0 rfl) ?_
    refine q_getr hC hG cF0 i0 hq.1.1 6 (by decide) rfl hr6 k24 dX0_field_69 ?_
    refine q_callV (rest := []) (k_X1_size l D cA A hs hlg2 hL2) hC hG cF1 hlg2.1 0 gX0_field_X1_size rfl (by decide +kernel) ⟨by decide, by decide⟩ rfl hl.1 rfl (by simp [Value.category]) dX0_field_72 ⟨Nat.le_of_ble_eq_true rfl, Nat.le_of_ble_eq_true rfl⟩ (fun v Y H locs hq hG => ?_)
    obtain ⟨rfl, rfl⟩ := hq
    exact q_iret (v := (nI (M2 3 g2))) hC hG hr hlk (⟨by simp only [m_lf, if_neg c1x0, if_neg c1x1, if_neg c1x2, if_neg c1x3, if_pos c1x4]; rw [← hsz], rfl⟩) dX0_field_75
  by_cases c1x5 : what = nI 5
  · refine lv_tableIn (off := 75) (tgt := 76) hx hb dX0_field_1 (by rw [c1x5]; decide +kernel) (by rw [c1x5]; decide +kernel) (by rw [c1x5]; decide +kernel) (by decide) ?_
    refine lv_aload_n hx hb dX0_field_76 rfl (lv_at hl 0 rfl) ?_
    refine q_gw (w := s2) hC hG cF0 i0 hq.1.1 4 (by decide) rfl ((g_iv hs (Or.inl hq.1.1) 4).trans hi4) k28 dX0_field_77 ?_
    exact q_iret (v := (nI s2)) hC hG hr hlk (⟨by simp only [m_lf, if_neg c1x0, if_neg c1x1, if_neg c1x2, if_neg c1x3, if_neg c1x4, if_pos c1x5]; rw [← hsu], rfl⟩) dX0_field_80
  by_cases c1x6 : what = nI 6
  · refine lv_tableIn (off := 80) (tgt := 81) hx hb dX0_field_1 (by rw [c1x6]; decide +kernel) (by rw [c1x6]; decide +kernel) (by rw [c1x6]; decide +kernel) (by decide) ?_
    refine lv_aload_n hx hb dX0_field_81 rfl (lv_at hl 0 rfl) ?_
    refine q_gw (w := M 23 l0) hC hG cF0 i0 hq.1.1 5 (by decide) rfl ((g_iv hs (Or.inl hq.1.1) 5).trans hq.1.2.2.2.2.2.1) k31 dX0_field_82 ?_
    have bl5 := hB.1 23 l0 rfl
    exact q_iret (v := (nI (M 23 l0))) hC hG hr hlk (⟨by simp only [m_lf, if_neg c1x0, if_neg c1x1, if_neg c1x2, if_neg c1x3, if_neg c1x4, if_neg c1x5, if_pos c1x6], rfl⟩) dX0_field_85
  by_cases c1x7 : what = nI 7
  · refine lv_tableIn (off := 85) (tgt := 86) hx hb dX0_field_1 (by rw [c1x7]; decide +kernel) (by rw [c1x7]; decide +kernel) (by rw [c1x7]; decide +kernel) (by decide) ?_
    refine lv_aload_n hx hb dX0_field_86 rfl (lv_at hl 0 rfl) ?_
    refine q_gw (w := M 24 l0) hC hG cF0 i0 hq.1.1 7 (by decide) rfl ((g_iv hs (Or.inl hq.1.1) 7).trans hq.1.2.2.2.2.2.2) k40 dX0_field_87 ?_
    have bl7 := hB.1 24 l0 rfl
    refine n_ifeq (tgt := 97) hC dX0_field_90 (by decide) (by omega) (fun c90 => ?_) (fun c90 => ?_)
    · refine n_iconst hC 0 dX0_field_97 ?_
      exact q_iret (v := (nI 0)) hC hG hr hlk (⟨by simp only [m_lf, if_neg c1x0, if_neg c1x1, if_neg c1x2, if_neg c1x3, if_neg c1x4, if_neg c1x5, if_neg c1x6, if_pos c1x7, if_pos c90], rfl⟩) dX0_field_98
    · refine n_iconst hC 1 dX0_field_93 ?_
      refine lv_goto (tgt := 98) hx hb dX0_field_94 (by decide) ?_
      exact q_iret (v := (nI 1)) hC hG hr hlk (⟨by simp only [m_lf, if_neg c1x0, if_neg c1x1, if_neg c1x2, if_neg c1x3, if_neg c1x4, if_neg c1x5, if_neg c1x6, if_pos c1x7, if_neg c90], rfl⟩) dX0_field_98
  refine lv_tableOut (tgt := 99) hx hb dX0_field_1 (sw_out (hi := 7) (fun v hv => by rcases (show v = 0 ∨ v = 1 ∨ v = 2 ∨ v = 3 ∨ v = 4 ∨ v = 5 ∨ v = 6 ∨ v = 7 by omega) with rfl | rfl | rfl | rfl | rfl | rfl | rfl | rfl <;> assumption)) (by decide) ?_
  refine lv_bipush (v := -2) hx hb dX0_field_99 (by decide) ?_
  exact q_iret (v := (-2)) hC hG hr hlk (⟨by simp only [m_lf, if_neg c1x0, if_neg c1x1, if_neg c1x2, if_neg c1x3, if_neg c1x4, if_neg c1x5, if_neg c1x6, if_neg c1x7], rfl⟩) dX0_field_101

abbrev rmX3_countDropped : Room := { frames := 0, cells := 0, slots := 0, locals := 0 }
set_option maxHeartbeats 4000000 in
set_option maxRecDepth 100000 in
theorem k_X3_countDropped (l : Launch) (D : va_G) (cA : Nat → ClassId) (A : Nat → Prop) {b n f : Nat} {X : Mem} {M : MM} {P : Nat → Nat} (hs : Sd b n f X M) (hJ : J M) : mt l D cA A yX3_countDropped wsX3_countDropped rmX3_countDropped [.ref (b + 3)] (cM b n X M P) (fun w Y => w = some (.int (nI (m_cnt M 24 0 (M 17 0)))) ∧ Y = cM b n X M P) := by
  refine q_start (by decide) rfl (Nat.le_of_ble_eq_true rfl) (fun p e s m args below meth c H locs hC hr hlk hnm hG ls hl => ?_)
  have hl : lv_has ls 6 [(0, .ref (b + 3))] := hl
  have hx := hC.1.1
  have hb := hC.1.2.1
  have hts := hC.1.2.2.2.2
  have i3 : ∀ w ∈ wsX30, w ∈ wsX3_countDropped := by decide +kernel
  have i0 : ∀ w ∈ wsX00, w ∈ wsX3_countDropped := by decide +kernel
  have hnf := g_nf hs
  have hB := hJ.1
  have hL := hJ.2.1
  have hE := hJ.2.2.1
  have k11 := hts (.fieldLink RX3 11 "ViewStamps$Pool" "letters" "[LViewStamps$Letter;") (by decide +kernel)
  have k28 := hts (.fieldLink RX3 28 "ViewStamps$Letter" "dropped" "Z") (by decide +kernel)
  refine n_iconst hC 0 dX3_countDropped_0 ?_
  refine lv_istore_n (lv' := [(1, .int (nI 0)), (0, .ref (b + 3))]) hx hb dX3_countDropped_1 rfl hl (by decide) rfl (fun ls hl => ?_)
  refine lv_aload_n hx hb dX3_countDropped_2 rfl (lv_at hl 1 rfl) ?_
  refine q_getr hC hG cF3 i3 hs.1.2.2.1.1 0 (by decide) rfl hs.1.2.2.1.2.1 k11 dX3_countDropped_3 ?_
  refine lv_astore_n (lv' := [(2, .ref (b + 4)), (1, .int (nI 0)), (0, .ref (b + 3))]) hx hb dX3_countDropped_6 rfl hl (by decide) rfl (fun ls hl => ?_)
  refine lv_aload_n hx hb dX3_countDropped_7 rfl (lv_at hl 0 rfl) ?_
  refine q_alen hC hG (k := 9) hs.1.2.2.1.2.2.1 (by decide) (by decide) hs.1.2.2.1.2.2.2 dX3_countDropped_8 ?_
  refine lv_istore_n (lv' := [(3, .int (nI 240)), (2, .ref (b + 4)), (1, .int (nI 0)), (0, .ref (b + 3))]) hx hb dX3_countDropped_9 rfl hl (by decide) rfl (fun ls hl => ?_)
  refine n_iconst hC 0 dX3_countDropped_10 ?_
  refine lv_istore (lv' := [(4, .int (nI 0)), (3, .int (nI 240)), (2, .ref (b + 4)), (1, .int (nI 0)), (0, .ref (b + 3))]) hx hb dX3_countDropped_11 hl (by decide) rfl (fun ls hl => ?_)
  have loop : ∀ (d : Nat) (j : Nat) (H : Heap) (locs : List Loc) (ls : Array Slot), 240 - j < d → j ≤ 240 → gw D cA A (cM b n X M P) s.heap H locs → lv_has ls 6 [(0, .ref (b + 3)), (1, .int (nI (m_cnt M 24 0 j))), (2, .ref (b + 4)), (3, .int (nI 240)), (4, .int (nI j))] → W p l e rmX3_countDropped s m args below meth c H locs 0 0 (MQ below (mQ D cA A (fun w Y => w = some (.int (nI (m_cnt M 24 0 (M 17 0)))) ∧ Y = cM b n X M P)) args s rmX3_countDropped.cells rmX3_countDropped.slots A) (F0 m 13 ls []) := by
    intro d
    induction d with
    | zero => intro j H locs ls hd; exact absurd hd (Nat.not_lt_zero _)
    | succ d ih =>
      intro j H locs ls hd hj hG hl
      have hct := m_cnt_le M 24 0 j
      refine lv_iload hx hb dX3_countDropped_13 (lv_at hl 4 rfl) ?_
      refine lv_iload_n hx hb dX3_countDropped_15 rfl (lv_at hl 3 rfl) ?_
      refine n_ge (tgt := 52) hC dX3_countDropped_16 (by decide) (by omega) (by omega) (fun c16 => ?_) (fun c16 => ?_)
      · have c16n := Nat.not_lt.mpr c16
        refine lv_iload_n hx hb dX3_countDropped_52 rfl (lv_at hl 1 rfl) ?_
        exact q_iret (v := (nI (m_cnt M 24 0 j))) hC hG hr hlk (⟨by rw [show j = 240 by omega, cnt_tail hJ.2.2.2 240 hB.2], rfl⟩) dX3_countDropped_53
      · have c16n := Nat.not_le.mpr c16
        refine lv_aload_n hx hb dX3_countDropped_19 rfl (lv_at hl 2 rfl) ?_
        refine lv_iload hx hb dX3_countDropped_20 (lv_at hl 4 rfl) ?_
        by_cases hjl : j < M 17 0
        · obtain ⟨q, hq1, hq2⟩ := hs.2.2.1 j hjl
          refine q_aw (v := .ref q) hC hG (Or.inl hs.1.2.2.1.2.2.1) hs.1.2.2.1.2.2.2 (by omega) (by decide) (by rw [show rv (cM b n X M P) (b + 4) j = some q from hq1]; rfl) dX3_countDropped_22 ?_
          refine lv_astore (lv' := [(5, .ref q), (0, .ref (b + 3)), (1, .int (nI (m_cnt M 24 0 j))), (2, .ref (b + 4)), (3, .int (nI 240)), (4, .int (nI j))]) hx hb dX3_countDropped_23 hl (by decide) rfl (fun ls hl => ?_)
          refine lv_iload_n hx hb dX3_countDropped_25 rfl (lv_at hl 2 rfl) ?_
          refine lv_aload hx hb dX3_countDropped_26 (lv_at hl 0 rfl) ?_
          refine lv_ifnull hx hb dX3_countDropped_28 ?_
          refine lv_aload hx hb dX3_countDropped_31 (lv_at hl 0 rfl) ?_
          refine q_gw (w := M 24 j) hC hG cF0 i0 hq2.1.1 7 (by decide) rfl ((g_iv hs (Or.inl hq2.1.1) 7).trans hq2.1.2.2.2.2.2.2) k28 dX3_countDropped_33 ?_
          have bl7 := hB.1 24 j rfl
          refine n_ifeq (tgt := 43) hC dX3_countDropped_36 (by decide) (by omega) (fun c36 => ?_) (fun c36 => ?_)
          · refine n_iconst hC 0 dX3_countDropped_43 ?_
            refine n_iadd hC dX3_countDropped_44 ?_
            refine lv_istore_n (lv' := [(1, .int (nI ((m_cnt M 24 0 j) + 0))), (5, .ref q), (0, .ref (b + 3)), (2, .ref (b + 4)), (3, .int (nI 240)), (4, .int (nI j))]) hx hb dX3_countDropped_45 rfl hl (by decide) rfl (fun ls hl => ?_)
            refine n_iinc (n := 1) (k := 5) (lv' := [(4, .int (nI (j + 1))), (1, .int (nI ((m_cnt M 24 0 j) + 0))), (5, .ref q), (0, .ref (b + 3)), (2, .ref (b + 4)), (3, .int (nI 240))]) hC dX3_countDropped_46 hl rfl (by decide) rfl (fun ls hl => ?_)
            refine lv_goto (tgt := 13) hx hb dX3_countDropped_49 (by decide) ?_
            have e0 : m_cnt M 24 0 (j + 1) = m_cnt M 24 0 j + 0 := by rw [m_cnt, Nat.zero_add, if_pos c36]
            exact ih (j + 1) _ _ _ (by omega) (by omega) hG (by rw [e0]; exact (lv_sub hl [3, 1, 4, 5, 0] rfl))
          · refine n_iconst hC 1 dX3_countDropped_39 ?_
            refine lv_goto (tgt := 44) hx hb dX3_countDropped_40 (by decide) ?_
            refine n_iadd hC dX3_countDropped_44 ?_
            refine lv_istore_n (lv' := [(1, .int (nI ((m_cnt M 24 0 j) + 1))), (5, .ref q), (0, .ref (b + 3)), (2, .ref (b + 4)), (3, .int (nI 240)), (4, .int (nI j))]) hx hb dX3_countDropped_45 rfl hl (by decide) rfl (fun ls hl => ?_)
            refine n_iinc (n := 1) (k := 5) (lv' := [(4, .int (nI (j + 1))), (1, .int (nI ((m_cnt M 24 0 j) + 1))), (5, .ref q), (0, .ref (b + 3)), (2, .ref (b + 4)), (3, .int (nI 240))]) hC dX3_countDropped_46 hl rfl (by decide) rfl (fun ls hl => ?_)
            refine lv_goto (tgt := 13) hx hb dX3_countDropped_49 (by decide) ?_
            have e0 : m_cnt M 24 0 (j + 1) = m_cnt M 24 0 j + 1 := by rw [m_cnt, Nat.zero_add, if_neg c36]
            exact ih (j + 1) _ _ _ (by omega) (by omega) hG (by rw [e0]; exact (lv_sub hl [3, 1, 4, 5, 0] rfl))
        · have c36 : M 24 j = 0 := hJ.2.2.2 j (by omega)
          refine q_aw (v := .null) hC hG (Or.inl hs.1.2.2.1.2.2.1) hs.1.2.2.1.2.2.2 (by omega) (by decide) (by rw [show rv (cM b n X M P) (b + 4) j = none from hs.2.1.2 j (by omega) (by omega)]; rfl) dX3_countDropped_22 ?_
          refine lv_astoreN (lv' := [(5, .null), (0, .ref (b + 3)), (1, .int (nI (m_cnt M 24 0 j))), (2, .ref (b + 4)), (3, .int (nI 240)), (4, .int (nI j))]) hx hb dX3_countDropped_23 hl (by decide) rfl (fun ls hl => ?_)
          refine lv_iload_n hx hb dX3_countDropped_25 rfl (lv_at hl 2 rfl) ?_
          refine lv_aloadN hx hb dX3_countDropped_26 (lv_at hl 0 rfl) ?_
          refine lv_ifnullN (tgt := 43) hx hb dX3_countDropped_28 (by decide) ?_
          refine n_iconst hC 0 dX3_countDropped_43 ?_
          refine n_iadd hC dX3_countDropped_44 ?_
          refine lv_istore_n (lv' := [(1, .int (nI ((m_cnt M 24 0 j) + 0))), (5, .null), (0, .ref (b + 3)), (2, .ref (b + 4)), (3, .int (nI 240)), (4, .int (nI j))]) hx hb dX3_countDropped_45 rfl hl (by decide) rfl (fun ls hl => ?_)
          refine n_iinc (n := 1) (k := 5) (lv' := [(4, .int (nI (j + 1))), (1, .int (nI ((m_cnt M 24 0 j) + 0))), (5, .null), (0, .ref (b + 3)), (2, .ref (b + 4)), (3, .int (nI 240))]) hC dX3_countDropped_46 hl rfl (by decide) rfl (fun ls hl => ?_)
          refine lv_goto (tgt := 13) hx hb dX3_countDropped_49 (by decide) ?_
          have e0 : m_cnt M 24 0 (j + 1) = m_cnt M 24 0 j + 0 := by rw [m_cnt, Nat.zero_add, if_pos c36]
          exact ih (j + 1) _ _ _ (by omega) (by omega) hG (by rw [e0]; exact (lv_sub hl [3, 1, 4, 5, 0] rfl))
  exact loop 241 0 _ _ _ (by omega) (by omega) hG (lv_sub hl [4, 3, 2, 1, 0] rfl)
