abbrev rmX2_forgetVotes : Room := { frames := 0, cells := 0, slots := 0, locals := 0 }
set_option maxHeartbeats 4000000 in
set_option maxRecDepth 100000 in
theorem k_X2_forgetVotes (l : Launch) (D : va_G) (cA : Nat → ClassId) (A : Nat → Prop) {b n f : Nat} {X : Mem} {M : MM} {P : Nat → Nat} (hs : Sd b n f X M) (hJ : J M) {i : Nat} (hi : i < n) : mt l D cA A yX2_forgetVotes wsX2_forgetVotes rmX2_forgetVotes [.ref (na b i)] (cM b n X M P) (fun w Y => w = none ∧ ∃ X1, Y = cM b n X1 (m_fg M i) P ∧ Sd b n f X1 (m_fg M i) ∧ go b n X X1) := by
  refine q_start (by decide) rfl (Nat.le_of_ble_eq_true rfl) (fun p e s m args below meth c H locs hC hr hlk hnm hG ls hl => ?_)
  have hl : lv_has ls 2 [(0, .ref (na b i))] := hl
  have hx := hC.1.1
  have hb := hC.1.2.1
  have hts := hC.1.2.2.2.2
  have i2 : ∀ w ∈ wsX20, w ∈ wsX2_forgetVotes := by decide +kernel
  have hnf := g_nf hs
  have hB := hJ.1
  have hL := hJ.2.1
  have hE := hJ.2.2.1
  have hgo := go_rf b n X
  have k19 := hts (.fieldLink RX2 19 "ViewStamps$Node" "size" "I") (by decide +kernel)
  have k38 := hts (.fieldLink RX2 38 "ViewStamps$Node" "votes" "[LViewStamps$Letter;") (by decide +kernel)
  have k65 := hts (.fieldLink RX2 65 "ViewStamps$Node" "voters" "I") (by decide +kernel)
  have k78 := hts (.fieldLink RX2 78 "ViewStamps$Node" "voted" "Z") (by decide +kernel)
  have loop : ∀ (d : Nat) (j : Nat) (X1 : Mem) (H : Heap) (locs : List Loc) (ls : Array Slot), n - j < d → j ≤ n → Sd b n f X1 (m_rz (up2 (m_rz M 11 i 5) 8 i 0) 12 i j) → go b n X X1 → gw D cA A (cM b n X1 (m_rz (up2 (m_rz M 11 i 5) 8 i 0) 12 i j) P) s.heap H locs → lv_has ls 2 [(0, .ref (na b i)), (1, .int (nI j))] → W p l e rmX2_forgetVotes s m args below meth c H locs 0 0 (MQ below (mQ D cA A (fun w Y => w = none ∧ ∃ X1, Y = cM b n X1 (m_fg M i) P ∧ Sd b n f X1 (m_fg M i) ∧ go b n X X1)) args s rmX2_forgetVotes.cells rmX2_forgetVotes.slots A) (F0 m 12 ls []) := by
    intro d
    induction d with
    | zero => intro j X1 H locs ls hd; exact absurd hd (Nat.not_lt_zero _)
    | succ d ih =>
      intro j X1 H locs ls hd hj hs hgo hG hl
      refine lv_iload_n hx hb dX2_forgetVotes_12 rfl (lv_at hl 1 rfl) ?_
      refine lv_aload_n hx hb dX2_forgetVotes_13 rfl (lv_at hl 0 rfl) ?_
      refine q_gw (w := n) hC hG cF2 i2 (g_kn hs (by omega)) 1 (by decide) rfl (g_n1 hs (by omega)) k19 dX2_forgetVotes_14 ?_
      refine n_ge (tgt := 33) hC dX2_forgetVotes_17 (by decide) (by omega) (by omega) (fun c17 => ?_) (fun c17 => ?_)
      · have c17n := Nat.not_lt.mpr c17
        exact q_vret hC hG hr hlk (by have ej : j = n := (by omega); rw [ej] at hs ⊢; obtain ⟨e1, e2⟩ := fg_eq (P := P) (by omega) hi hs; exact ⟨rfl, X1, e1, e2, hgo⟩) dX2_forgetVotes_33
      · have c17n := Nat.not_le.mpr c17
        refine lv_aload_n hx hb dX2_forgetVotes_20 rfl (lv_at hl 0 rfl) ?_
        refine q_getr hC hG cF2 i2 (g_kn hs (by omega)) 5 (by decide) rfl (hs.1.2.2.2.2.2.1 i (by omega)).2.1.2.2.1 k38 dX2_forgetVotes_21 ?_
        refine lv_iload_n hx hb dX2_forgetVotes_24 rfl (lv_at hl 1 rfl) ?_
        refine lv_null hx hb dX2_forgetVotes_25 ?_
        refine q_aastN hC hG (show kd X1 (na b i + 2) = 9 ∧ ln X1 (na b i + 2) = n from ⟨(hs.1.2.2.2.2.2.1 i (by omega)).2.2.2.2.1, (hs.1.2.2.2.2.2.1 i (by omega)).2.2.2.2.2.1⟩).1 (show kd X1 (na b i + 2) = 9 ∧ ln X1 (na b i + 2) = n from ⟨(hs.1.2.2.2.2.2.1 i (by omega)).2.2.2.2.1, (hs.1.2.2.2.2.2.1 i (by omega)).2.2.2.2.2.1⟩).2 (by omega) (by omega) dX2_forgetVotes_26 (fun H locs hG => ?_)
        obtain ⟨hs2, hg2⟩ := Sd_nov hs (i := i) (j := j) (by omega) (by omega)
        rw [cM_wR] at hG
        have hG : gw D cA A (cM b n (wR X1 (na b i + 2) j none) (up2 (m_rz (up2 (m_rz M 11 i 5) 8 i 0) 12 i j) 12 (5 * i + j) 0) P) s.heap H locs := by rw [← cM_hid (by omega) _ _ (fun u hu => up2_ne _ _ (by omega)) (fun x y hx => up2_ne _ _ (by omega))]; exact hG
        have hgo := go_tr hgo hg2
        refine n_iinc (n := 1) (k := 1) (lv' := [(1, .int (nI (j + 1))), (0, .ref (na b i))]) hC dX2_forgetVotes_27 hl rfl (by decide) rfl (fun ls hl => ?_)
        refine lv_goto (tgt := 12) hx hb dX2_forgetVotes_30 (by decide) ?_
        rw [m_rz_s] at hG hs2
        exact ih (j + 1) _ _ _ _ (by omega) (by omega) hs2 hgo hG (lv_sub hl [1, 0] rfl)
  refine lv_aload_n hx hb dX2_forgetVotes_0 rfl (lv_at hl 0 rfl) ?_
  refine n_iconst hC 0 dX2_forgetVotes_1 ?_
  refine q_puti hC hG cF2 i2 (g_kn hs (by omega)) 15 (by decide) rfl k65 (Or.inl rfl) rfl rfl dX2_forgetVotes_2 (fun H locs hG => ?_)
  rw [cM_n15z (by omega) (by omega)] at hG
  have hs : Sd b n f X (m_rz M 11 i 5) := Sd_to hs ⟨fun x y hx => m_rz_o _ _ _ _ (by omega), fun y _ => m_rz_o _ _ _ _ (by decide)⟩
  have hJ := J_rz hJ 11 i 5 (by decide)
  refine lv_aload_n hx hb dX2_forgetVotes_5 rfl (lv_at hl 0 rfl) ?_
  refine n_iconst hC 0 dX2_forgetVotes_6 ?_
  refine q_puti hC hG cF2 i2 (g_kn hs (by omega)) 16 (by decide) rfl k78 (Or.inl rfl) rfl (by first | rfl | decide) dX2_forgetVotes_7 (fun H locs hG => ?_)
  rw [cM_n16 (by omega)] at hG
  have hs := Sd_to hs (dq_up (k := 8) (y := i) (v := 0) (by omega))
  have hJ := J_up hJ 8 i (v := 0) (by decide) (Or.inl (by omega))
  have hB := hJ.1
  have hL := hJ.2.1
  have hE := hJ.2.2.1
  refine n_iconst hC 0 dX2_forgetVotes_10 ?_
  refine lv_istore_n (lv' := [(1, .int (nI 0)), (0, .ref (na b i))]) hx hb dX2_forgetVotes_11 rfl hl (by decide) rfl (fun ls hl => ?_)
  exact loop (n + 1) 0 X _ _ _ (by omega) (by omega) (by rw [m_rz_0]; exact hs) (go_rf b n X) (by rw [m_rz_0]; exact hG) (lv_sub hl [1, 0] rfl)

abbrev rmX2_forgetTales : Room := { frames := 0, cells := 0, slots := 0, locals := 0 }
set_option maxHeartbeats 4000000 in
set_option maxRecDepth 100000 in
theorem k_X2_forgetTales (l : Launch) (D : va_G) (cA : Nat → ClassId) (A : Nat → Prop) {b n f : Nat} {X : Mem} {M : MM} {P : Nat → Nat} (hs : Sd b n f X M) (hJ : J M) {i : Nat} (hi : i < n) : mt l D cA A yX2_forgetTales wsX2_forgetTales rmX2_forgetTales [.ref (na b i)] (cM b n X M P) (fun w Y => w = none ∧ ∃ X1, Y = cM b n X1 (m_rz M 14 i n) P ∧ Sd b n f X1 (m_rz M 14 i n) ∧ go b n X X1) := by
  refine q_start (by decide) rfl (Nat.le_of_ble_eq_true rfl) (fun p e s m args below meth c H locs hC hr hlk hnm hG ls hl => ?_)
  have hl : lv_has ls 2 [(0, .ref (na b i))] := hl
  have hx := hC.1.1
  have hb := hC.1.2.1
  have hts := hC.1.2.2.2.2
  have i2 : ∀ w ∈ wsX20, w ∈ wsX2_forgetTales := by decide +kernel
  have hnf := g_nf hs
  have hB := hJ.1
  have hL := hJ.2.1
  have hE := hJ.2.2.1
  have hgo := go_rf b n X
  have k19 := hts (.fieldLink RX2 19 "ViewStamps$Node" "size" "I") (by decide +kernel)
  have k42 := hts (.fieldLink RX2 42 "ViewStamps$Node" "tales" "[LViewStamps$Letter;") (by decide +kernel)
  have loop : ∀ (d : Nat) (j : Nat) (X1 : Mem) (H : Heap) (locs : List Loc) (ls : Array Slot), n - j < d → j ≤ n → Sd b n f X1 (m_rz (M) 14 i j) → go b n X X1 → gw D cA A (cM b n X1 (m_rz (M) 14 i j) P) s.heap H locs → lv_has ls 2 [(0, .ref (na b i)), (1, .int (nI j))] → W p l e rmX2_forgetTales s m args below meth c H locs 0 0 (MQ below (mQ D cA A (fun w Y => w = none ∧ ∃ X1, Y = cM b n X1 (m_rz M 14 i n) P ∧ Sd b n f X1 (m_rz M 14 i n) ∧ go b n X X1)) args s rmX2_forgetTales.cells rmX2_forgetTales.slots A) (F0 m 2 ls []) := by
    intro d
    induction d with
    | zero => intro j X1 H locs ls hd; exact absurd hd (Nat.not_lt_zero _)
    | succ d ih =>
      intro j X1 H locs ls hd hj hs hgo hG hl
      refine lv_iload_n hx hb dX2_forgetTales_2 rfl (lv_at hl 1 rfl) ?_
      refine lv_aload_n hx hb dX2_forgetTales_3 rfl (lv_at hl 0 rfl) ?_
      refine q_gw (w := n) hC hG cF2 i2 (g_kn hs (by omega)) 1 (by decide) rfl (g_n1 hs (by omega)) k19 dX2_forgetTales_4 ?_
      refine n_ge (tgt := 23) hC dX2_forgetTales_7 (by decide) (by omega) (by omega) (fun c7 => ?_) (fun c7 => ?_)
      · have c7n := Nat.not_lt.mpr c7
        exact q_vret hC hG hr hlk (by have ej : j = n := (by omega); rw [ej] at hs ⊢; exact ⟨rfl, X1, rfl, hs, hgo⟩) dX2_forgetTales_23
      · have c7n := Nat.not_le.mpr c7
        refine lv_aload_n hx hb dX2_forgetTales_10 rfl (lv_at hl 0 rfl) ?_
        refine q_getr hC hG cF2 i2 (g_kn hs (by omega)) 6 (by decide) rfl (hs.1.2.2.2.2.2.1 i (by omega)).2.1.2.2.2.1 k42 dX2_forgetTales_11 ?_
        refine lv_iload_n hx hb dX2_forgetTales_14 rfl (lv_at hl 1 rfl) ?_
        refine lv_null hx hb dX2_forgetTales_15 ?_
        refine q_aastN hC hG (show kd X1 (na b i + 3) = 9 ∧ ln X1 (na b i + 3) = n from ⟨(hs.1.2.2.2.2.2.1 i (by omega)).2.2.2.2.2.2.1, (hs.1.2.2.2.2.2.1 i (by omega)).2.2.2.2.2.2.2.1⟩).1 (show kd X1 (na b i + 3) = 9 ∧ ln X1 (na b i + 3) = n from ⟨(hs.1.2.2.2.2.2.1 i (by omega)).2.2.2.2.2.2.1, (hs.1.2.2.2.2.2.1 i (by omega)).2.2.2.2.2.2.2.1⟩).2 (by omega) (by omega) dX2_forgetTales_16 (fun H locs hG => ?_)
        obtain ⟨hs2, hg2⟩ := Sd_not hs (i := i) (j := j) (by omega) (by omega)
        rw [cM_wR] at hG
        have hG : gw D cA A (cM b n (wR X1 (na b i + 3) j none) (up2 (m_rz (M) 14 i j) 14 (5 * i + j) 0) P) s.heap H locs := by rw [← cM_hid (by omega) _ _ (fun u hu => up2_ne _ _ (by omega)) (fun x y hx => up2_ne _ _ (by omega))]; exact hG
        have hgo := go_tr hgo hg2
        refine n_iinc (n := 1) (k := 1) (lv' := [(1, .int (nI (j + 1))), (0, .ref (na b i))]) hC dX2_forgetTales_17 hl rfl (by decide) rfl (fun ls hl => ?_)
        refine lv_goto (tgt := 2) hx hb dX2_forgetTales_20 (by decide) ?_
        rw [m_rz_s] at hG hs2
        exact ih (j + 1) _ _ _ _ (by omega) (by omega) hs2 hgo hG (lv_sub hl [1, 0] rfl)
  refine n_iconst hC 0 dX2_forgetTales_0 ?_
  refine lv_istore_n (lv' := [(1, .int (nI 0)), (0, .ref (na b i))]) hx hb dX2_forgetTales_1 rfl hl (by decide) rfl (fun ls hl => ?_)
  exact loop (n + 1) 0 X _ _ _ (by omega) (by omega) (by rw [m_rz_0]; exact hs) (go_rf b n X) (by rw [m_rz_0]; exact hG) (lv_sub hl [1, 0] rfl)

abbrev rmX2_changeTo : Room := { frames := 4, cells := 5, slots := 40, locals := 94 }
set_option maxHeartbeats 4000000 in
set_option maxRecDepth 100000 in
theorem k_X2_changeTo (l : Launch) (D : va_G) (cA : Nat → ClassId) (A : Nat → Prop) {b n f : Nat} {X : Mem} {M : MM} {P : Nat → Nat} (hs : Sd b n f X M) (hJ : J M) {i : Nat} (hi : i < n) (v : Nat) (hv : v < 2147483648) : mt l D cA A yX2_changeTo wsX2_changeTo rmX2_changeTo [.ref (na b i), .int (nI v)] (cM b n X M P) (fun w Y => w = none ∧ ∃ X1, Y = cM b n X1 (m_chg n M i v) P ∧ Sd b n f X1 (m_chg n M i v) ∧ go b n X X1) := by
  refine q_start (by decide) rfl (Nat.le_of_ble_eq_true rfl) (fun p e s m args below meth c H locs hC hr hlk hnm hG ls hl => ?_)
  have hl : lv_has ls 2 [(0, .ref (na b i)), (1, .int (nI v))] := hl
  have hx := hC.1.1
  have hb := hC.1.2.1
  have hts := hC.1.2.2.2.2
  have i2 : ∀ w ∈ wsX20, w ∈ wsX2_changeTo := by decide +kernel
  have hnf := g_nf hs
  have hB := hJ.1
  have hL := hJ.2.1
  have hE := hJ.2.2.1
  have hgo := go_rf b n X
  have k48 := hts (.fieldLink RX2 48 "ViewStamps$Node" "status" "I") (by decide +kernel)
  have k51 := hts (.fieldLink RX2 51 "ViewStamps$Node" "view" "I") (by decide +kernel)
  refine lv_aload_n hx hb dX2_changeTo_0 rfl (lv_at hl 0 rfl) ?_
  refine lv_iload_n hx hb dX2_changeTo_1 rfl (lv_at hl 1 rfl) ?_
  refine q_puti hC hG cF2 i2 (g_kn hs (by omega)) 10 (by decide) rfl k51 (Or.inl rfl) rfl (by first | rfl | decide) dX2_changeTo_2 (fun H locs hG => ?_)
  rw [cM_n10 (by omega)] at hG
  have hs := Sd_to hs (dq_up (k := 6) (y := i) (v := v) (by omega))
  have hJ := J_up hJ 6 i (v := v) (by decide) (Or.inl (by omega))
  have hB := hJ.1
  have hL := hJ.2.1
  have hE := hJ.2.2.1
  refine lv_aload_n hx hb dX2_changeTo_5 rfl (lv_at hl 0 rfl) ?_
  refine n_iconst hC 1 dX2_changeTo_6 ?_
  refine q_puti hC hG cF2 i2 (g_kn hs (by omega)) 9 (by decide) rfl k48 (Or.inl rfl) rfl (by first | rfl | decide) dX2_changeTo_7 (fun H locs hG => ?_)
  rw [cM_n9 (by omega)] at hG
  have hs := Sd_to hs (dq_up (k := 5) (y := i) (v := 1) (by omega))
  have hJ := J_up hJ 5 i (v := 1) (by decide) (Or.inl (by omega))
  have hB := hJ.1
  have hL := hJ.2.1
  have hE := hJ.2.2.1
  refine lv_aload_n hx hb dX2_changeTo_10 rfl (lv_at hl 0 rfl) ?_
  refine q_callV (rest := []) (k_X2_forgetVotes l D cA A hs hJ (i := i) (by omega)) hC hG cF2 (g_kn hs (by omega)) 0 gX2_changeTo_X2_forgetVotes rfl (by decide +kernel) ⟨by decide, by decide⟩ rfl hl.1 rfl (by simp [Value.category]) dX2_changeTo_11 ⟨by decide, by decide⟩ (fun v Y H locs hq hG => ?_)
  obtain ⟨rfl, Xtes, rfl, hs, hgtes⟩ := hq
  have hgo := go_tr hgo hgtes
  have hJ := J_fg hJ i
  have hB := hJ.1
  have hL := hJ.2.1
  have hE := hJ.2.2.1
  refine lv_aload_n hx hb dX2_changeTo_14 rfl (lv_at hl 0 rfl) ?_
  refine n_iconst hC 3 dX2_changeTo_15 ?_
  refine n_iconst hC 0 dX2_changeTo_16 ?_
  refine q_callV (rest := []) (k_X2_postToAll l D cA A hs hJ (i := i) (by omega) 3 0 (by omega) (by omega)) hC hG cF2 (g_kn hs (by omega)) 2 gX2_changeTo_X2_postToAll rfl (by decide +kernel) ⟨by decide, by decide⟩ rfl hl.1 rfl (by simp [Value.category]) dX2_changeTo_17 ⟨by decide, by decide⟩ (fun v Y H locs hq hG => ?_)
  obtain ⟨rfl, Xp, rfl, hs, hgp⟩ := hq
  have hgo := go_tr hgo hgp
  have hJ := J_pa (i := i) (k := 3) (v := (m_fg (up2 (up2 M 6 i v) 5 i 1) i) 6 i) (c := 0) hJ (by omega) (by omega) (hJ.1.1 6 _ rfl) (by omega) n (by omega)
  have hB := hJ.1
  have hL := hJ.2.1
  have hE := hJ.2.2.1
  exact q_vret hC hG hr hlk (by have e6 : m_fg (up2 (up2 M 6 i v) 5 i 1) i 6 i = v := (by simp [m_fg_at, up2]); rw [e6] at hs ⊢; exact ⟨rfl, _, rfl, hs, hgo⟩) dX2_changeTo_20 (h1 := by decide) (h2 := by decide)
