def li (X : Mem) (q fr to so vi lg su co : Nat) : Mem := wI (wI (wR (wI (wI (wI (wI X q 0 fr) q 1 to) q 2 so) q 3 vi) q 6 (some lg)) q 4 su) q 5 co

abbrev rmX0_init : Room := { frames := 1, cells := 0, slots := 0, locals := 20 }
set_option maxHeartbeats 4000000 in
set_option maxRecDepth 100000 in
theorem k_X0_init (l : Launch) (D : va_G) (cA : Nat → ClassId) (A : Nat → Prop) {X : Mem} (q fr to so vi lg su co : Nat) (hk0 : kd X q = 1) : mt l D cA A yX0_init wsX0_init rmX0_init [.ref q, .int (nI fr), .int (nI to), .int (nI so), .int (nI vi), .ref lg, .int (nI su), .int (nI co)] (X) (fun v Y => v = none ∧ Y = li X q fr to so vi lg su co) := by
  refine q_start (by decide) rfl (Nat.le_of_ble_eq_true rfl) (fun p e s m args below meth c H locs hC hr hlk hnm hG ls hl => ?_)
  have hl : lv_has ls 8 [(0, .ref q), (1, .int (nI fr)), (2, .int (nI to)), (3, .int (nI so)), (4, .int (nI vi)), (5, .ref lg), (6, .int (nI su)), (7, .int (nI co))] := hl
  have hx := hC.1.1
  have hb := hC.1.2.1
  have hts := hC.1.2.2.2.2
  have i0 : ∀ w ∈ wsX00, w ∈ wsX0_init := by decide +kernel
  have k9 := hts (.fieldLink RX0 9 "ViewStamps$Letter" "from" "I") (by decide +kernel)
  have k15 := hts (.fieldLink RX0 15 "ViewStamps$Letter" "to" "I") (by decide +kernel)
  have k18 := hts (.fieldLink RX0 18 "ViewStamps$Letter" "sort" "I") (by decide +kernel)
  have k21 := hts (.fieldLink RX0 21 "ViewStamps$Letter" "view" "I") (by decide +kernel)
  have k24 := hts (.fieldLink RX0 24 "ViewStamps$Letter" "log" "LViewStamps$Log;") (by decide +kernel)
  have k28 := hts (.fieldLink RX0 28 "ViewStamps$Letter" "sure" "I") (by decide +kernel)
  have k31 := hts (.fieldLink RX0 31 "ViewStamps$Letter" "count" "I") (by decide +kernel)
  refine lv_aload_n hx hb dX0_init_0 rfl (lv_at hl 0 rfl) ?_
  refine q_obj hC (hts (.methodLink RX0 3 objectInit) (by decide +kernel)) (hts (.instanceMethod objectInit) (by decide +kernel)) (hts (.code objectInit ⟨#[0xb1]⟩ 1 none) (by decide +kernel)) hl.1 (by simp [Value.category]) (by decide) (by decide) dX0_init_1 ?_
  refine lv_aload_n hx hb dX0_init_4 rfl (lv_at hl 0 rfl) ?_
  refine lv_iload_n hx hb dX0_init_5 rfl (lv_at hl 1 rfl) ?_
  refine q_puti hC hG cF0 i0 hk0 0 (by decide) rfl k9 (Or.inr ⟨hnm, rfl⟩) rfl rfl dX0_init_6 (fun H locs hG => ?_)
  refine lv_aload_n hx hb dX0_init_9 rfl (lv_at hl 0 rfl) ?_
  refine lv_iload_n hx hb dX0_init_10 rfl (lv_at hl 2 rfl) ?_
  refine q_puti hC hG cF0 i0 hk0 1 (by decide) rfl k15 (Or.inr ⟨hnm, rfl⟩) rfl rfl dX0_init_11 (fun H locs hG => ?_)
  refine lv_aload_n hx hb dX0_init_14 rfl (lv_at hl 0 rfl) ?_
  refine lv_iload_n hx hb dX0_init_15 rfl (lv_at hl 3 rfl) ?_
  refine q_puti hC hG cF0 i0 hk0 2 (by decide) rfl k18 (Or.inr ⟨hnm, rfl⟩) rfl rfl dX0_init_16 (fun H locs hG => ?_)
  refine lv_aload_n hx hb dX0_init_19 rfl (lv_at hl 0 rfl) ?_
  refine lv_iload hx hb dX0_init_20 (lv_at hl 4 rfl) ?_
  refine q_puti hC hG cF0 i0 hk0 3 (by decide) rfl k21 (Or.inr ⟨hnm, rfl⟩) rfl rfl dX0_init_22 (fun H locs hG => ?_)
  refine lv_aload_n hx hb dX0_init_25 rfl (lv_at hl 0 rfl) ?_
  refine lv_aload hx hb dX0_init_26 (lv_at hl 5 rfl) ?_
  refine q_putr hC hG cF0 i0 hk0 6 (by decide) rfl k24 (Or.inr ⟨hnm, rfl⟩) rfl rfl dX0_init_28 (fun H locs hG => ?_)
  refine lv_aload_n hx hb dX0_init_31 rfl (lv_at hl 0 rfl) ?_
  refine lv_iload hx hb dX0_init_32 (lv_at hl 6 rfl) ?_
  refine q_puti hC hG cF0 i0 hk0 4 (by decide) rfl k28 (Or.inr ⟨hnm, rfl⟩) rfl rfl dX0_init_34 (fun H locs hG => ?_)
  refine lv_aload_n hx hb dX0_init_37 rfl (lv_at hl 0 rfl) ?_
  refine lv_iload hx hb dX0_init_38 (lv_at hl 7 rfl) ?_
  refine q_puti hC hG cF0 i0 hk0 5 (by decide) rfl k31 (Or.inr ⟨hnm, rfl⟩) rfl rfl dX0_init_40 (fun H locs hG => ?_)
  exact q_vret hC hG hr hlk (⟨rfl, rfl⟩) dX0_init_43

/-- a letter made and written -/
def lw (X : Mem) (fr to so vi lg su co : Nat) : Mem := li (nw X 1 0) (nx X) fr to so vi lg su co
theorem lw_fr (X : Mem) (a1 a2 a3 a4 a5 a6 a7 : Nat) : fr X (lw X a1 a2 a3 a4 a5 a6 a7) := fr_wI (fr_wI (fr_wR (fr_wI (fr_wI (fr_wI (fr_wI (fr_nw (fr_rf X) 1 0) (Nat.le_refl _)) (Nat.le_refl _)) (Nat.le_refl _)) (Nat.le_refl _)) (Nat.le_refl _)) (Nat.le_refl _)) (Nat.le_refl _)
theorem lw_at (X : Mem) (a1 a2 a3 a4 a5 a6 a7 : Nat) : kd (lw X a1 a2 a3 a4 a5 a6 a7) (nx X) = 1 ∧ iv (lw X a1 a2 a3 a4 a5 a6 a7) (nx X) 0 = a1 ∧ iv (lw X a1 a2 a3 a4 a5 a6 a7) (nx X) 1 = a2 ∧ iv (lw X a1 a2 a3 a4 a5 a6 a7) (nx X) 2 = a3 ∧ iv (lw X a1 a2 a3 a4 a5 a6 a7) (nx X) 3 = a4 ∧ iv (lw X a1 a2 a3 a4 a5 a6 a7) (nx X) 4 = a6 ∧ iv (lw X a1 a2 a3 a4 a5 a6 a7) (nx X) 5 = a7 ∧ iv (lw X a1 a2 a3 a4 a5 a6 a7) (nx X) 7 = 0 ∧ rv (lw X a1 a2 a3 a4 a5 a6 a7) (nx X) 6 = some a5 := by
  refine ⟨va_up_self _ _ _, ?_, ?_, ?_, ?_, ?_, ?_, ?_, ?_⟩ <;> simp [lw, li, wI, wR, nw, iv, rv, up2, va_up]
theorem lw_cM {b n : Nat} (X : Mem) (M : MM) (P : Nat → Nat) (h : he b n ≤ nx X) (a1 a2 a3 a4 a5 a6 a7 : Nat) : li (cM b n (nw X 1 0) M P) (nx X) a1 a2 a3 a4 a5 a6 a7 = cM b n (lw X a1 a2 a3 a4 a5 a6 a7) M P := by
  unfold he at h
  have h1 : nx X ≠ b + 3 := by omega
  have h2 : nx X < b + 6 ∨ b + 7 + 5 * n ≤ nx X := by omega
  unfold li lw li
  rw [cM_wI _ _ _ _ _ h1 h2, cM_wI _ _ _ _ _ h1 h2, cM_wI _ _ _ _ _ h1 h2, cM_wI _ _ _ _ _ h1 h2, cM_wR, cM_wI _ _ _ _ _ h1 h2, cM_wI _ _ _ _ _ h1 h2]
theorem lg_emp {b n f : Nat} {X : Mem} {M : MM} (hs : Sd b n f X M) : LogAt b n X (b + 1) (fun _ _ => 0) 0 := by
  obtain ⟨a1, a2, a3, a4⟩ := hs.1.2.1
  exact ⟨a1, b + 2, a2, a3, a4, fun k hk => absurd hk (Nat.not_lt_zero _), Or.inl rfl⟩
theorem m_inL_no {L : Nat} {v : Int32} (hL : L ≤ 240) (h : v < 0 ∨ nI L ≤ v) : m_in v (nI 0) (nI L - nI 1) = 0 := by
  apply Classical.byContradiction
  intro hc
  obtain ⟨j, hj, rfl⟩ := m_inL_of hL hc
  rcases h with h | h
  · exact nI_pos (by omega) h
  · exact nI_ge hj (by omega) h
theorem m_inL_yes {L l : Nat} (hL : L ≤ 240) (h : l < L) : m_in (nI l) (nI 0) (nI L - nI 1) = 1 := by
  cases L with
  | zero => exact absurd h (Nat.not_lt_zero _)
  | succ L =>
    rw [show nI (L + 1) - nI 1 = nI L from nI_pred L]
    exact m_in_yes (Nat.zero_le _) (by omega) (by omega)

abbrev rmX3_at : Room := { frames := 0, cells := 0, slots := 0, locals := 0 }
set_option maxHeartbeats 4000000 in
set_option maxRecDepth 100000 in
theorem k_X3_at (l : Launch) (D : va_G) (cA : Nat → ClassId) (A : Nat → Prop) {b n f : Nat} {X : Mem} {M : MM} {P : Nat → Nat} (hs : Sd b n f X M) (hJ : J M) (nr : Int32) : mt l D cA A yX3_at wsX3_at rmX3_at [.ref (b + 3), .int nr] (cM b n X M P) (fun v Y => Y = cM b n X M P ∧ ((∃ j q, j < M 17 0 ∧ nr = nI j ∧ rv X (b + 4) j = some q ∧ Lt b n X M j q ∧ v = some (.ref q)) ∨ (m_in nr (nI 0) (nI (M 17 0) - nI 1) = 0 ∧ v = some .null))) := by
  refine q_start (by decide) rfl (Nat.le_of_ble_eq_true rfl) (fun p e s m args below meth c H locs hC hr hlk hnm hG ls hl => ?_)
  have hl : lv_has ls 2 [(0, .ref (b + 3)), (1, .int nr)] := hl
  have hx := hC.1.1
  have hb := hC.1.2.1
  have hts := hC.1.2.2.2.2
  have i3 : ∀ w ∈ wsX30, w ∈ wsX3_at := by decide +kernel
  have hnf := g_nf hs
  have hB := hJ.1
  have hL := hJ.2.1
  have hE := hJ.2.2.1
  have h17 := hB.2
  have k11 := hts (.fieldLink RX3 11 "ViewStamps$Pool" "letters" "[LViewStamps$Letter;") (by decide +kernel)
  have k17 := hts (.fieldLink RX3 17 "ViewStamps$Pool" "posted" "I") (by decide +kernel)
  refine lv_iload_n hx hb dX3_at_0 rfl (lv_at hl 1 rfl) ?_
  refine lv_if_lt (tgt := 21) hx hb dX3_at_1 (by decide) (fun c1 => ?_) (fun c1 => ?_)
  · refine lv_null hx hb dX3_at_21 ?_
    exact q_aret (v := none) hC hG hr (by first | exact Or.inl ⟨_, rfl⟩ | exact Or.inr ⟨_, rfl⟩) hlk (⟨rfl, Or.inr ⟨m_inL_no (by omega) (Or.inl c1), rfl⟩⟩) dX3_at_22
  · refine lv_iload_n hx hb dX3_at_4 rfl (lv_at hl 1 rfl) ?_
    refine lv_aload_n hx hb dX3_at_5 rfl (lv_at hl 0 rfl) ?_
    refine q_gw (w := M 17 0) hC hG cF3 i3 hs.1.2.2.1.1 1 (by decide) rfl (cM_p1 b n _ _ _) k17 dX3_at_6 ?_
    have b1 : M 17 0 ≤ 240 := by have := hB.2; first | exact this | (simp [up2, m_cp, m_cpk] at this; exact this) | omega
    refine lv_icmp_ge (tgt := 21) hx hb dX3_at_9 (by decide) (fun c9 => ?_) (fun c9 => ?_)
    · refine lv_null hx hb dX3_at_21 ?_
      exact q_aret (v := none) hC hG hr (by first | exact Or.inl ⟨_, rfl⟩ | exact Or.inr ⟨_, rfl⟩) hlk (⟨rfl, Or.inr ⟨m_inL_no (by omega) (Or.inr c9), rfl⟩⟩) dX3_at_22
    · obtain ⟨j, hj0, rfl⟩ := nI_of c1
      have hjL : j < M 17 0 := Nat.lt_of_not_le fun z => c9 (nI_le z (by omega))
      obtain ⟨q, hq1, hq2⟩ := hs.2.2.1 j hjL
      refine lv_aload_n hx hb dX3_at_12 rfl (lv_at hl 0 rfl) ?_
      refine q_getr hC hG cF3 i3 hs.1.2.2.1.1 0 (by decide) rfl hs.1.2.2.1.2.1 k11 dX3_at_13 ?_
      refine lv_iload_n hx hb dX3_at_16 rfl (lv_at hl 1 rfl) ?_
      refine q_aw (v := .ref q) hC hG (Or.inl hs.1.2.2.1.2.2.1) hs.1.2.2.1.2.2.2 (by omega) (by decide) (by rw [show rv (cM b n X M P) (b + 4) j = some q from hq1]; rfl) dX3_at_17 ?_
      refine lv_goto (tgt := 22) hx hb dX3_at_18 (by decide) ?_
      exact q_aret (v := (some q)) hC hG hr (by first | exact Or.inl ⟨_, rfl⟩ | exact Or.inr ⟨_, rfl⟩) hlk (⟨rfl, Or.inl ⟨j, q, hjL, rfl, hq1, hq2, rfl⟩⟩) dX3_at_22

abbrev rmX3_standing : Room := { frames := 1, cells := 0, slots := 0, locals := 21 }
set_option maxHeartbeats 4000000 in
set_option maxRecDepth 100000 in
theorem k_X3_standing (l : Launch) (D : va_G) (cA : Nat → ClassId) (A : Nat → Prop) {b n f : Nat} {X : Mem} {M : MM} {P : Nat → Nat} (hs : Sd b n f X M) (hJ : J M) (nr : Int32) : mt l D cA A yX3_standing wsX3_standing rmX3_standing [.ref (b + 3), .int nr] (cM b n X M P) (fun v Y => Y = cM b n X M P ∧ ((∃ j q, j < M 17 0 ∧ nr = nI j ∧ rv X (b + 4) j = some q ∧ Lt b n X M j q ∧ M 24 j = 0 ∧ v = some (.ref q)) ∨ (m_there M nr = 0 ∧ v = some .null))) := by
  refine q_start (by decide) rfl (Nat.le_of_ble_eq_true rfl) (fun p e s m args below meth c H locs hC hr hlk hnm hG ls hl => ?_)
  have hl : lv_has ls 3 [(0, .ref (b + 3)), (1, .int nr)] := hl
  have hx := hC.1.1
  have hb := hC.1.2.1
  have hts := hC.1.2.2.2.2
  have i3 : ∀ w ∈ wsX30, w ∈ wsX3_standing := by decide +kernel
  have i0 : ∀ w ∈ wsX00, w ∈ wsX3_standing := by decide +kernel
  have hnf := g_nf hs
  have hB := hJ.1
  have hL := hJ.2.1
  have hE := hJ.2.2.1
  have h17 := hB.2
  have k28 := hts (.fieldLink RX3 28 "ViewStamps$Letter" "dropped" "Z") (by decide +kernel)
  refine lv_aload_n hx hb dX3_standing_0 rfl (lv_at hl 0 rfl) ?_
  refine lv_iload_n hx hb dX3_standing_1 rfl (lv_at hl 1 rfl) ?_
  refine q_callV (rest := []) (k_X3_at l D cA A hs hJ nr) hC hG cF3 hs.1.2.2.1.1 1 gX3_standing_X3_at rfl (by decide +kernel) ⟨by decide, by decide⟩ rfl hl.1 rfl (by simp [Value.category]) dX3_standing_2 ⟨Nat.le_of_ble_eq_true rfl, Nat.le_of_ble_eq_true rfl⟩ (fun v Y H locs hq hG => ?_)
  rcases hq with ⟨rfl, ⟨j, q, hjL, rfl, hq1, hq2, rfl⟩ | ⟨hq0, rfl⟩⟩
  · refine lv_astore_n (lv' := [(2, .ref q), (0, .ref (b + 3)), (1, .int (nI j))]) hx hb dX3_standing_5 rfl hl (by decide) rfl (fun ls hl => ?_)
    refine lv_aload_n hx hb dX3_standing_6 rfl (lv_at hl 0 rfl) ?_
    refine lv_ifnull hx hb dX3_standing_7 ?_
    refine lv_aload_n hx hb dX3_standing_10 rfl (lv_at hl 0 rfl) ?_
    refine q_gw (w := M 24 j) hC hG cF0 i0 hq2.1.1 7 (by decide) rfl ((g_iv hs (Or.inl hq2.1.1) 7).trans hq2.1.2.2.2.2.2.2) k28 dX3_standing_11 ?_
    have bl7 := hB.1 24 j rfl
    refine n_ifeq (tgt := 21) hC dX3_standing_14 (by decide) (by omega) (fun c14 => ?_) (fun c14 => ?_)
    · refine lv_aload_n hx hb dX3_standing_21 rfl (lv_at hl 0 rfl) ?_
      exact q_aret (v := (some q)) hC hG hr (by first | exact Or.inl ⟨_, rfl⟩ | exact Or.inr ⟨_, rfl⟩) hlk (⟨rfl, Or.inl ⟨j, q, hjL, rfl, hq1, hq2, c14, rfl⟩⟩) dX3_standing_22
    · refine lv_null hx hb dX3_standing_17 ?_
      refine lv_goto (tgt := 22) hx hb dX3_standing_18 (by decide) ?_
      exact q_aret (v := none) hC hG hr (by first | exact Or.inl ⟨_, rfl⟩ | exact Or.inr ⟨_, rfl⟩) hlk (⟨rfl, Or.inr ⟨by simp only [m_there, m_inL_yes h17 hjL, tN_nI (show j < 4294967296 by omega), if_neg c14]; rfl, rfl⟩⟩) dX3_standing_22
  · refine lv_astore_nN (lv' := [(2, .null), (0, .ref (b + 3)), (1, .int nr)]) hx hb dX3_standing_5 rfl hl (by decide) rfl (fun ls hl => ?_)
    refine lv_aload_nN hx hb dX3_standing_6 rfl (lv_at hl 0 rfl) ?_
    refine lv_ifnullN (tgt := 17) hx hb dX3_standing_7 (by decide) ?_
    refine lv_null hx hb dX3_standing_17 ?_
    refine lv_goto (tgt := 22) hx hb dX3_standing_18 (by decide) ?_
    exact q_aret (v := none) hC hG hr (by first | exact Or.inl ⟨_, rfl⟩ | exact Or.inr ⟨_, rfl⟩) hlk (⟨rfl, Or.inr ⟨by simp only [m_there, if_pos hq0], rfl⟩⟩) dX3_standing_22

abbrev rmX3_add : Room := { frames := 0, cells := 0, slots := 0, locals := 0 }
set_option maxHeartbeats 4000000 in
set_option maxRecDepth 100000 in
theorem k_X3_add (l : Launch) (D : va_G) (cA : Nat → ClassId) (A : Nat → Prop) {b n f : Nat} {X : Mem} {M : MM} {P : Nat → Nat} (hs : Sd b n f X M) (hJ : J M) {q i j k v0 c0 : Nat} (hi : i < 295) (hw : Lw b n X M q i j k v0 c0) (hfr : ∀ l, l < M 17 0 → rv X (b + 4) l ≠ some q) : mt l D cA A yX3_add wsX3_add rmX3_add [.ref (b + 3), .ref q] (cM b n X M P) (fun v Y => v = none ∧ ∃ X1, Y = cM b n X1 (m_post M i j k v0 c0) P ∧ Sd b n f X1 (m_post M i j k v0 c0) ∧ go b n X X1) := by
  refine q_start (by decide) rfl (Nat.le_of_ble_eq_true rfl) (fun p e s m args below meth c H locs hC hr hlk hnm hG ls hl => ?_)
  have hl : lv_has ls 2 [(0, .ref (b + 3)), (1, .ref q)] := hl
  have hx := hC.1.1
  have hb := hC.1.2.1
  have hts := hC.1.2.2.2.2
  have i3 : ∀ w ∈ wsX30, w ∈ wsX3_add := by decide +kernel
  have hnf := g_nf hs
  have hB := hJ.1
  have hL := hJ.2.1
  have hE := hJ.2.2.1
  have h17 := hB.2
  have k11 := hts (.fieldLink RX3 11 "ViewStamps$Pool" "letters" "[LViewStamps$Letter;") (by decide +kernel)
  have k17 := hts (.fieldLink RX3 17 "ViewStamps$Pool" "posted" "I") (by decide +kernel)
  have k21 := hts (.fieldLink RX3 21 "ViewStamps$Pool" "lost" "I") (by decide +kernel)
  refine lv_aload_n hx hb dX3_add_0 rfl (lv_at hl 0 rfl) ?_
  refine q_gw (w := M 17 0) hC hG cF3 i3 hs.1.2.2.1.1 1 (by decide) rfl (cM_p1 b n _ _ _) k17 dX3_add_1 ?_
  have b1 : M 17 0 ≤ 240 := by have := hB.2; first | exact this | (simp [up2, m_cp, m_cpk] at this; exact this) | omega
  refine lv_aload_n hx hb dX3_add_4 rfl (lv_at hl 0 rfl) ?_
  refine q_getr hC hG cF3 i3 hs.1.2.2.1.1 0 (by decide) rfl hs.1.2.2.1.2.1 k11 dX3_add_5 ?_
  refine q_alen hC hG (k := 9) hs.1.2.2.1.2.2.1 (by decide) (by decide) hs.1.2.2.1.2.2.2 dX3_add_8 ?_
  refine n_lt (tgt := 23) hC dX3_add_9 (by decide) (by omega) (by omega) (fun c9 => ?_) (fun c9 => ?_)
  · have c9n := Nat.not_le.mpr c9
    refine lv_aload_n hx hb dX3_add_23 rfl (lv_at hl 0 rfl) ?_
    refine q_getr hC hG cF3 i3 hs.1.2.2.1.1 0 (by decide) rfl hs.1.2.2.1.2.1 k11 dX3_add_24 ?_
    refine lv_aload_n hx hb dX3_add_27 rfl (lv_at hl 0 rfl) ?_
    refine q_gw (w := M 17 0) hC hG cF3 i3 hs.1.2.2.1.1 1 (by decide) rfl (cM_p1 b n _ _ _) k17 dX3_add_28 ?_
    have b2 : M 17 0 ≤ 240 := by have := hB.2; first | exact this | (simp [up2, m_cp, m_cpk] at this; exact this) | omega
    refine lv_aload_n hx hb dX3_add_31 rfl (lv_at hl 1 rfl) ?_
    refine q_aast (n := 240) hC hG (Or.inl ⟨hs.1.2.2.1.2.2.1, hw.1.1⟩) hs.1.2.2.1.2.2.2 (by omega) (by decide) dX3_add_32 (fun H locs hG => ?_)
    obtain ⟨hs2, hgo⟩ := Sd_post hs hL (by omega) hi hw (hJ.2.2.2 _ (Nat.le_refl _)) hfr
    rw [cM_wR] at hG
    refine lv_aload_n hx hb dX3_add_33 rfl (lv_at hl 0 rfl) ?_
    refine lv_dup hx hb dX3_add_34 rfl ?_
    refine q_gw (w := M 17 0) hC hG cF3 i3 hs2.1.2.2.1.1 1 (by decide) rfl (cM_p1 b n _ _ _) k17 dX3_add_35 ?_
    refine n_iconst hC 1 dX3_add_38 ?_
    refine n_iadd hC dX3_add_39 ?_
    refine q_puti hC hG cF3 i3 hs2.1.2.2.1.1 1 (by decide) rfl k17 (Or.inl rfl) rfl rfl dX3_add_40 (fun H locs hG => ?_)
    rw [cM_post (i := i) (j := j) (k := k) (v := v0) (c := c0) (by omega) _ _ (by omega)] at hG
    exact q_vret hC hG hr hlk (⟨rfl, _, rfl, hs2, hgo⟩) dX3_add_43
  · have c9n := Nat.not_lt.mpr c9
    refine lv_aload_n hx hb dX3_add_12 rfl (lv_at hl 0 rfl) ?_
    refine lv_dup hx hb dX3_add_13 rfl ?_
    refine q_gw (w := M 18 0) hC hG cF3 i3 hs.1.2.2.1.1 2 (by decide) rfl (cM_p2 b n _ _ _) k21 dX3_add_14 ?_
    refine n_iconst hC 1 dX3_add_17 ?_
    refine n_iadd hC dX3_add_18 ?_
    refine q_puti hC hG cF3 i3 hs.1.2.2.1.1 2 (by decide) rfl k21 (Or.inl rfl) rfl rfl dX3_add_19 (fun H locs hG => ?_)
    rw [cM_p18] at hG
    have hs := Sd_to hs (dq_up (k := 18) (y := 0) (v := (M 18 0) + 1) (by omega))
    have hJ := J_up hJ 18 0 (v := (M 18 0) + 1) (by decide) (Or.inr rfl)
    have hB := hJ.1
    have hL := hJ.2.1
    have hE := hJ.2.2.1
    exact q_vret hC hG hr hlk (⟨rfl, X, by rw [m_post, if_pos (show M 17 0 = 240 by omega)], by rw [m_post, if_pos (show M 17 0 = 240 by omega)]; exact hs, go_rf b n X⟩) dX3_add_22

abbrev rmX2_firstOf : Room := { frames := 0, cells := 0, slots := 0, locals := 0 }
set_option maxHeartbeats 4000000 in
set_option maxRecDepth 100000 in
theorem k_X2_firstOf (l : Launch) (D : va_G) (cA : Nat → ClassId) (A : Nat → Prop) {b n f : Nat} {X : Mem} {M : MM} {P : Nat → Nat} (hs : Sd b n f X M) (hJ : J M) {i : Nat} (hi : i < n) (v : Nat) (hv : v < 2147483648) : mt l D cA A yX2_firstOf wsX2_firstOf rmX2_firstOf [.ref (na b i), .int (nI v)] (cM b n X M P) (fun w Y => w = some (.int (nI (v % n))) ∧ Y = cM b n X M P) := by
  refine q_start (by decide) rfl (Nat.le_of_ble_eq_true rfl) (fun p e s m args below meth c H locs hC hr hlk hnm hG ls hl => ?_)
  have hl : lv_has ls 2 [(0, .ref (na b i)), (1, .int (nI v))] := hl
  have hx := hC.1.1
  have hb := hC.1.2.1
  have hts := hC.1.2.2.2.2
  have i2 : ∀ w ∈ wsX20, w ∈ wsX2_firstOf := by decide +kernel
  have hnf := g_nf hs
  have hB := hJ.1
  have hL := hJ.2.1
  have hE := hJ.2.2.1
  have k19 := hts (.fieldLink RX2 19 "ViewStamps$Node" "size" "I") (by decide +kernel)
  refine lv_aload_n hx hb dX2_firstOf_0 rfl (lv_at hl 0 rfl) ?_
  refine q_gw (w := n) hC hG cF2 i2 (g_kn hs (by omega)) 1 (by decide) rfl (g_n1 hs (by omega)) k19 dX2_firstOf_1 ?_
  refine n_iconst hC 5 dX2_firstOf_4 ?_
  refine n_ne (tgt := 14) hC dX2_firstOf_5 (by decide) (by omega) (by omega) (fun c5 => ?_) (fun c5 => ?_)
  · refine lv_iload_n hx hb dX2_firstOf_14 rfl (lv_at hl 1 rfl) ?_
    refine n_iconst hC 3 dX2_firstOf_15 ?_
    refine n_irem hC (by omega) (by omega) (by omega) dX2_firstOf_16 ?_
    have r16 : v % 3 < 3 := Nat.mod_lt _ (by omega)
    exact q_iret (v := (nI (v % 3))) hC hG hr hlk (⟨by rw [show n = 3 by omega], rfl⟩) dX2_firstOf_17
  · refine lv_iload_n hx hb dX2_firstOf_8 rfl (lv_at hl 1 rfl) ?_
    refine n_iconst hC 5 dX2_firstOf_9 ?_
    refine n_irem hC (by omega) (by omega) (by omega) dX2_firstOf_10 ?_
    have r10 : v % 5 < 5 := Nat.mod_lt _ (by omega)
    refine lv_goto (tgt := 17) hx hb dX2_firstOf_11 (by decide) ?_
    exact q_iret (v := (nI (v % 5))) hC hG hr hlk (⟨by rw [show n = 5 by omega], rfl⟩) dX2_firstOf_17

abbrev rmX2_isFirst : Room := { frames := 1, cells := 0, slots := 0, locals := 21 }
set_option maxHeartbeats 4000000 in
set_option maxRecDepth 100000 in
theorem k_X2_isFirst (l : Launch) (D : va_G) (cA : Nat → ClassId) (A : Nat → Prop) {b n f : Nat} {X : Mem} {M : MM} {P : Nat → Nat} (hs : Sd b n f X M) (hJ : J M) {i : Nat} (hi : i < n) : mt l D cA A yX2_isFirst wsX2_isFirst rmX2_isFirst [.ref (na b i)] (cM b n X M P) (fun w Y => w = some (.int (nI (m_fst n M i))) ∧ Y = cM b n X M P) := by
  refine q_start (by decide) rfl (Nat.le_of_ble_eq_true rfl) (fun p e s m args below meth c H locs hC hr hlk hnm hG ls hl => ?_)
  have hl : lv_has ls 1 [(0, .ref (na b i))] := hl
  have hx := hC.1.1
  have hb := hC.1.2.1
  have hts := hC.1.2.2.2.2
  have i2 : ∀ w ∈ wsX20, w ∈ wsX2_isFirst := by decide +kernel
  have hnf := g_nf hs
  have hB := hJ.1
  have hL := hJ.2.1
  have hE := hJ.2.2.1
  have k15 := hts (.fieldLink RX2 15 "ViewStamps$Node" "number" "I") (by decide +kernel)
  have k51 := hts (.fieldLink RX2 51 "ViewStamps$Node" "view" "I") (by decide +kernel)
  refine lv_aload_n hx hb dX2_isFirst_0 rfl (lv_at hl 0 rfl) ?_
  refine lv_aload_n hx hb dX2_isFirst_1 rfl (lv_at hl 0 rfl) ?_
  refine q_gw (w := M 6 i) hC hG cF2 i2 (g_kn hs (by omega)) 10 (by decide) rfl (g_n10 (by omega)) k51 dX2_isFirst_2 ?_
  have b1 : M 6 i < 2147483648 := by have := hB.1 6 i rfl; first | exact this | (simp [up2, m_cp, m_cpk] at this; exact this) | omega
  refine q_callV (rest := []) (k_X2_firstOf l D cA A hs hJ (i := i) (by omega) (M 6 i) (by omega)) hC hG cF2 (g_kn hs (by omega)) 1 gX2_isFirst_X2_firstOf rfl (by decide +kernel) ⟨by decide, by decide⟩ rfl hl.1 rfl (by simp [Value.category]) dX2_isFirst_5 ⟨Nat.le_of_ble_eq_true rfl, Nat.le_of_ble_eq_true rfl⟩ (fun v Y H locs hq hG => ?_)
  obtain ⟨rfl, rfl⟩ := hq
  have r5 : (M 6 i) % n < n := Nat.mod_lt _ (by omega)
  refine lv_aload_n hx hb dX2_isFirst_8 rfl (lv_at hl 0 rfl) ?_
  refine q_gw (w := i) hC hG cF2 i2 (g_kn hs (by omega)) 0 (by decide) rfl (g_n0 hs (by omega)) k15 dX2_isFirst_9 ?_
  refine n_ne (tgt := 19) hC dX2_isFirst_12 (by decide) (by omega) (by omega) (fun c12 => ?_) (fun c12 => ?_)
  · refine n_iconst hC 0 dX2_isFirst_19 ?_
    exact q_zret (v := 0) hC hG hr hlk (by first | decide | omega) (⟨by simp only [m_fst, if_neg c12], rfl⟩) dX2_isFirst_20
  · refine n_iconst hC 1 dX2_isFirst_15 ?_
    refine lv_goto (tgt := 20) hx hb dX2_isFirst_16 (by decide) ?_
    exact q_zret (v := 1) hC hG hr hlk (by first | decide | omega) (⟨by simp only [m_fst, if_pos c12], rfl⟩) dX2_isFirst_20

def c_leads (n : Nat) (M : MM) (i : Nat) : Nat := if M 5 i = 0 then (if m_fst n M i = 0 then 0 else 1) else 0
theorem c_leads_le (n : Nat) (M : MM) (i : Nat) : c_leads n M i ≤ 1 := by unfold c_leads; split <;> (try split) <;> decide
def c_down (M : MM) (i : Nat) : Nat := if M 5 i = 2 then 1 else if M 5 i = 3 then 1 else 0
theorem c_down_le (M : MM) (i : Nat) : c_down M i ≤ 1 := by unfold c_down; split <;> (try split) <;> decide

abbrev rmX2_leads : Room := { frames := 2, cells := 0, slots := 0, locals := 41 }
set_option maxHeartbeats 4000000 in
set_option maxRecDepth 100000 in
theorem k_X2_leads (l : Launch) (D : va_G) (cA : Nat → ClassId) (A : Nat → Prop) {b n f : Nat} {X : Mem} {M : MM} {P : Nat → Nat} (hs : Sd b n f X M) (hJ : J M) {i : Nat} (hi : i < n) : mt l D cA A yX2_leads wsX2_leads rmX2_leads [.ref (na b i)] (cM b n X M P) (fun w Y => w = some (.int (nI (c_leads n M i))) ∧ Y = cM b n X M P) := by
  refine q_start (by decide) rfl (Nat.le_of_ble_eq_true rfl) (fun p e s m args below meth c H locs hC hr hlk hnm hG ls hl => ?_)
  have hl : lv_has ls 1 [(0, .ref (na b i))] := hl
  have hx := hC.1.1
  have hb := hC.1.2.1
  have hts := hC.1.2.2.2.2
  have i2 : ∀ w ∈ wsX20, w ∈ wsX2_leads := by decide +kernel
  have hnf := g_nf hs
  have hB := hJ.1
  have hL := hJ.2.1
  have hE := hJ.2.2.1
  have k48 := hts (.fieldLink RX2 48 "ViewStamps$Node" "status" "I") (by decide +kernel)
  refine lv_aload_n hx hb dX2_leads_0 rfl (lv_at hl 0 rfl) ?_
  refine q_gw (w := M 5 i) hC hG cF2 i2 (g_kn hs (by omega)) 9 (by decide) rfl (g_n9 (by omega)) k48 dX2_leads_1 ?_
  have b1 : M 5 i < 2147483648 := by have := hB.1 5 i rfl; first | exact this | (simp [up2, m_cp, m_cpk] at this; exact this) | omega
  refine n_ifne (tgt := 18) hC dX2_leads_4 (by decide) (by omega) (fun c4 => ?_) (fun c4 => ?_)
  · refine n_iconst hC 0 dX2_leads_18 ?_
    exact q_zret (v := 0) hC hG hr hlk (by first | decide | omega) (⟨by simp only [c_leads, if_neg c4], rfl⟩) dX2_leads_19
  · refine lv_aload_n hx hb dX2_leads_7 rfl (lv_at hl 0 rfl) ?_
    refine q_callV (rest := []) (k_X2_isFirst l D cA A hs hJ (i := i) (by omega)) hC hG cF2 (g_kn hs (by omega)) 0 gX2_leads_X2_isFirst rfl (by decide +kernel) ⟨by decide, by decide⟩ rfl hl.1 rfl (by simp [Value.category]) dX2_leads_8 ⟨Nat.le_of_ble_eq_true rfl, Nat.le_of_ble_eq_true rfl⟩ (fun v Y H locs hq hG => ?_)
    obtain ⟨rfl, rfl⟩ := hq
    have q8 := m_fst_le n M i
    refine n_ifeq (tgt := 18) hC dX2_leads_11 (by decide) (by omega) (fun c11 => ?_) (fun c11 => ?_)
    · refine n_iconst hC 0 dX2_leads_18 ?_
      exact q_zret (v := 0) hC hG hr hlk (by first | decide | omega) (⟨by simp only [c_leads, if_pos c4, if_pos c11], rfl⟩) dX2_leads_19
    · refine n_iconst hC 1 dX2_leads_14 ?_
      refine lv_goto (tgt := 19) hx hb dX2_leads_15 (by decide) ?_
      exact q_zret (v := 1) hC hG hr hlk (by first | decide | omega) (⟨by simp only [c_leads, if_pos c4, if_neg c11], rfl⟩) dX2_leads_19

abbrev rmX2_isDown : Room := { frames := 0, cells := 0, slots := 0, locals := 0 }
set_option maxHeartbeats 4000000 in
set_option maxRecDepth 100000 in
theorem k_X2_isDown (l : Launch) (D : va_G) (cA : Nat → ClassId) (A : Nat → Prop) {b n f : Nat} {X : Mem} {M : MM} {P : Nat → Nat} (hs : Sd b n f X M) (hJ : J M) {i : Nat} (hi : i < n) : mt l D cA A yX2_isDown wsX2_isDown rmX2_isDown [.ref (na b i)] (cM b n X M P) (fun w Y => w = some (.int (nI (c_down M i))) ∧ Y = cM b n X M P) := by
  refine q_start (by decide) rfl (Nat.le_of_ble_eq_true rfl) (fun p e s m args below meth c H locs hC hr hlk hnm hG ls hl => ?_)
  have hl : lv_has ls 1 [(0, .ref (na b i))] := hl
  have hx := hC.1.1
  have hb := hC.1.2.1
  have hts := hC.1.2.2.2.2
  have i2 : ∀ w ∈ wsX20, w ∈ wsX2_isDown := by decide +kernel
  have hnf := g_nf hs
  have hB := hJ.1
  have hL := hJ.2.1
  have hE := hJ.2.2.1
  have k48 := hts (.fieldLink RX2 48 "ViewStamps$Node" "status" "I") (by decide +kernel)
  refine lv_aload_n hx hb dX2_isDown_0 rfl (lv_at hl 0 rfl) ?_
  refine q_gw (w := M 5 i) hC hG cF2 i2 (g_kn hs (by omega)) 9 (by decide) rfl (g_n9 (by omega)) k48 dX2_isDown_1 ?_
  have b1 : M 5 i < 2147483648 := by have := hB.1 5 i rfl; first | exact this | (simp [up2, m_cp, m_cpk] at this; exact this) | omega
  refine n_iconst hC 2 dX2_isDown_4 ?_
  refine n_eq (tgt := 16) hC dX2_isDown_5 (by decide) (by omega) (by omega) (fun c5 => ?_) (fun c5 => ?_)
  · refine n_iconst hC 1 dX2_isDown_16 ?_
    refine lv_goto (tgt := 21) hx hb dX2_isDown_17 (by decide) ?_
    exact q_zret (v := 1) hC hG hr hlk (by first | decide | omega) (⟨by simp only [c_down, if_pos c5], rfl⟩) dX2_isDown_21
  · refine lv_aload_n hx hb dX2_isDown_8 rfl (lv_at hl 0 rfl) ?_
    refine q_gw (w := M 5 i) hC hG cF2 i2 (g_kn hs (by omega)) 9 (by decide) rfl (g_n9 (by omega)) k48 dX2_isDown_9 ?_
    have b2 : M 5 i < 2147483648 := by have := hB.1 5 i rfl; first | exact this | (simp [up2, m_cp, m_cpk] at this; exact this) | omega
    refine n_iconst hC 3 dX2_isDown_12 ?_
    refine n_ne (tgt := 20) hC dX2_isDown_13 (by decide) (by omega) (by omega) (fun c13 => ?_) (fun c13 => ?_)
    · refine n_iconst hC 0 dX2_isDown_20 ?_
      exact q_zret (v := 0) hC hG hr hlk (by first | decide | omega) (⟨by simp only [c_down, if_neg c5, if_neg c13], rfl⟩) dX2_isDown_21
    · refine n_iconst hC 1 dX2_isDown_16 ?_
      refine lv_goto (tgt := 21) hx hb dX2_isDown_17 (by decide) ?_
      exact q_zret (v := 1) hC hG hr hlk (by first | decide | omega) (⟨by simp only [c_down, if_neg c5, if_pos c13], rfl⟩) dX2_isDown_21

abbrev rmX2_settleIn : Room := { frames := 0, cells := 0, slots := 0, locals := 0 }
set_option maxHeartbeats 4000000 in
set_option maxRecDepth 100000 in
theorem k_X2_settleIn (l : Launch) (D : va_G) (cA : Nat → ClassId) (A : Nat → Prop) {b n f : Nat} {X : Mem} {M : MM} {P : Nat → Nat} (hs : Sd b n f X M) (hJ : J M) {i : Nat} (hi : i < n) (v : Nat) (hv : v < 2147483648) : mt l D cA A yX2_settleIn wsX2_settleIn rmX2_settleIn [.ref (na b i), .int (nI v)] (cM b n X M P) (fun w Y => w = none ∧ ∃ X1, Y = cM b n X1 (up2 (up2 (up2 M 6 i v) 7 i v) 5 i 0) P ∧ Sd b n f X1 (up2 (up2 (up2 M 6 i v) 7 i v) 5 i 0) ∧ go b n X X1) := by
  refine q_start (by decide) rfl (Nat.le_of_ble_eq_true rfl) (fun p e s m args below meth c H locs hC hr hlk hnm hG ls hl => ?_)
  have hl : lv_has ls 2 [(0, .ref (na b i)), (1, .int (nI v))] := hl
  have hx := hC.1.1
  have hb := hC.1.2.1
  have hts := hC.1.2.2.2.2
  have i2 : ∀ w ∈ wsX20, w ∈ wsX2_settleIn := by decide +kernel
  have hnf := g_nf hs
  have hB := hJ.1
  have hL := hJ.2.1
  have hE := hJ.2.2.1
  have k48 := hts (.fieldLink RX2 48 "ViewStamps$Node" "status" "I") (by decide +kernel)
  have k51 := hts (.fieldLink RX2 51 "ViewStamps$Node" "view" "I") (by decide +kernel)
  have k54 := hts (.fieldLink RX2 54 "ViewStamps$Node" "lastView" "I") (by decide +kernel)
  refine lv_aload_n hx hb dX2_settleIn_0 rfl (lv_at hl 0 rfl) ?_
  refine lv_iload_n hx hb dX2_settleIn_1 rfl (lv_at hl 1 rfl) ?_
  refine q_puti hC hG cF2 i2 (g_kn hs (by omega)) 10 (by decide) rfl k51 (Or.inl rfl) rfl (by first | rfl | decide) dX2_settleIn_2 (fun H locs hG => ?_)
  rw [cM_n10 (by omega)] at hG
  have hs := Sd_to hs (dq_up (k := 6) (y := i) (v := v) (by omega))
  have hJ := J_up hJ 6 i (v := v) (by decide) (Or.inl (by omega))
  have hB := hJ.1
  have hL := hJ.2.1
  have hE := hJ.2.2.1
  refine lv_aload_n hx hb dX2_settleIn_5 rfl (lv_at hl 0 rfl) ?_
  refine lv_iload_n hx hb dX2_settleIn_6 rfl (lv_at hl 1 rfl) ?_
  refine q_puti hC hG cF2 i2 (g_kn hs (by omega)) 13 (by decide) rfl k54 (Or.inl rfl) rfl (by first | rfl | decide) dX2_settleIn_7 (fun H locs hG => ?_)
  rw [cM_n13 (by omega)] at hG
  have hs := Sd_to hs (dq_up (k := 7) (y := i) (v := v) (by omega))
  have hJ := J_up hJ 7 i (v := v) (by decide) (Or.inl (by omega))
  have hB := hJ.1
  have hL := hJ.2.1
  have hE := hJ.2.2.1
  refine lv_aload_n hx hb dX2_settleIn_10 rfl (lv_at hl 0 rfl) ?_
  refine n_iconst hC 0 dX2_settleIn_11 ?_
  refine q_puti hC hG cF2 i2 (g_kn hs (by omega)) 9 (by decide) rfl k48 (Or.inl rfl) rfl (by first | rfl | decide) dX2_settleIn_12 (fun H locs hG => ?_)
  rw [cM_n9 (by omega)] at hG
  have hs := Sd_to hs (dq_up (k := 5) (y := i) (v := 0) (by omega))
  have hJ := J_up hJ 5 i (v := 0) (by decide) (Or.inl (by omega))
  have hB := hJ.1
  have hL := hJ.2.1
  have hE := hJ.2.2.1
  exact q_vret hC hG hr hlk (⟨rfl, X, rfl, hs, go_rf b n X⟩) dX2_settleIn_15
