abbrev rmX2_postAgain : Room := { frames := 4, cells := 6, slots := 48, locals := 94 }
set_option maxHeartbeats 4000000 in
set_option maxRecDepth 100000 in
theorem k_X2_postAgain (l : Launch) (D : va_G) (cA : Nat → ClassId) (A : Nat → Prop) {b n f : Nat} {X : Mem} {M : MM} {P : Nat → Nat} (hs : Sd b n f X M) (hJ : J M) {i : Nat} (hi : i < n) (hP0 : P i ≤ 1000000) : mt l D cA A yX2_postAgain wsX2_postAgain rmX2_postAgain [.ref (na b i)] (cM b n X M P) (fun w Y => w = some (.int (nI (c_pag n M P i).1)) ∧ ∃ X1, Y = cM b n X1 (c_pag n M P i).2 P ∧ Sd b n f X1 (c_pag n M P i).2 ∧ go b n X X1) := by
  refine q_start (by decide) rfl (Nat.le_of_ble_eq_true rfl) (fun p e s m args below meth c H locs hC hr hlk hnm hG ls hl => ?_)
  have hl : lv_has ls 1 [(0, .ref (na b i))] := hl
  have hx := hC.1.1
  have hb := hC.1.2.1
  have hts := hC.1.2.2.2.2
  have i2 : ∀ w ∈ wsX20, w ∈ wsX2_postAgain := by decide +kernel
  have hnf := g_nf hs
  have hB := hJ.1
  have hL := hJ.2.1
  have hE := hJ.2.2.1
  have hgo := go_rf b n X
  have k19 := hts (.fieldLink RX2 19 "ViewStamps$Node" "size" "I") (by decide +kernel)
  have k48 := hts (.fieldLink RX2 48 "ViewStamps$Node" "status" "I") (by decide +kernel)
  have k78 := hts (.fieldLink RX2 78 "ViewStamps$Node" "voted" "Z") (by decide +kernel)
  have k119 := hts (.fieldLink RX2 119 "ViewStamps$Node" "nonce" "I") (by decide +kernel)
  refine lv_aload_n hx hb dX2_postAgain_0 rfl (lv_at hl 0 rfl) ?_
  refine q_gw (w := M 5 i) hC hG cF2 i2 (g_kn hs (by omega)) 9 (by decide) rfl (g_n9 (by omega)) k48 dX2_postAgain_1 ?_
  have b1 : M 5 i < 2147483648 := by have := hB.1 5 i rfl; first | exact this | (simp [up2, m_cp, m_cpk] at this; exact this) | omega
  by_cases c4x0 : M 5 i = 0
  · refine lv_tableIn (off := 28) (tgt := 32) hx hb dX2_postAgain_4 (by rw [c4x0]; decide +kernel) (by rw [c4x0]; decide +kernel) (by rw [c4x0]; decide +kernel) (by decide) ?_
    refine lv_aload_n hx hb dX2_postAgain_32 rfl (lv_at hl 0 rfl) ?_
    refine q_callV (rest := []) (k_X2_isFirst l D cA A hs hJ (i := i) (by omega)) hC hG cF2 (g_kn hs (by omega)) 0 gX2_postAgain_X2_isFirst rfl (by decide +kernel) ⟨by decide, by decide⟩ rfl hl.1 rfl (by simp [Value.category]) dX2_postAgain_33 ⟨by decide, by decide⟩ (fun v Y H locs hq hG => ?_)
    obtain ⟨rfl, rfl⟩ := hq
    have q33 := m_fst_le n M i
    refine n_ifne (tgt := 45) hC dX2_postAgain_36 (by decide) (by omega) (fun c36 => ?_) (fun c36 => ?_)
    · refine lv_aload_n hx hb dX2_postAgain_45 rfl (lv_at hl 0 rfl) ?_
      refine n_iconst hC 1 dX2_postAgain_46 ?_
      refine n_iconst hC 0 dX2_postAgain_47 ?_
      refine q_callV (rest := []) (k_X2_postToAll l D cA A hs hJ (i := i) (by omega) 1 0 (by omega) (by omega)) hC hG cF2 (g_kn hs (by omega)) 2 gX2_postAgain_X2_postToAll rfl (by decide +kernel) ⟨by decide, by decide⟩ rfl hl.1 rfl (by simp [Value.category]) dX2_postAgain_48 ⟨by decide, by decide⟩ (fun v Y H locs hq hG => ?_)
      obtain ⟨rfl, Xp, rfl, hs, hgp⟩ := hq
      have hgo := go_tr hgo hgp
      have hJ := J_pa (i := i) (k := 1) (v := M 6 i) (c := 0) hJ (by omega) (by omega) (hJ.1.1 6 _ rfl) (by omega) n (by omega)
      have hB := hJ.1
      have hL := hJ.2.1
      have hE := hJ.2.2.1
      refine lv_aload_n hx hb dX2_postAgain_51 rfl (lv_at hl 0 rfl) ?_
      refine q_gw (w := n) hC hG cF2 i2 (g_kn hs (by omega)) 1 (by decide) rfl (g_n1 hs (by omega)) k19 dX2_postAgain_52 ?_
      refine n_iconst hC 1 dX2_postAgain_55 ?_
      refine n_isub hC (by omega) dX2_postAgain_56 ?_
      exact q_iret (v := (nI (n - 1))) hC hG hr hlk (by have e : c_pag n M P i = (n - 1, m_pa M i 1 (M 6 i) 0 n) := (by simp only [c_pag, if_pos c4x0, if_neg c36]); rw [e]; exact ⟨rfl, Xp, rfl, hs, hgo⟩) dX2_postAgain_57 (h1 := by decide) (h2 := by decide)
    · refine lv_aload_n hx hb dX2_postAgain_39 rfl (lv_at hl 0 rfl) ?_
      refine q_callV (rest := []) (k_X2_postOk l D cA A hs hJ (i := i) (by omega) ) hC hG cF2 (g_kn hs (by omega)) 0 gX2_postAgain_X2_postOk rfl (by decide +kernel) ⟨by decide, by decide⟩ rfl hl.1 rfl (by simp [Value.category]) dX2_postAgain_40 ⟨by decide, by decide⟩ (fun v Y H locs hq hG => ?_)
      obtain ⟨rfl, Xpost, rfl, hs, hgpost⟩ := hq
      have hgo := go_tr hgo hgpost
      have hJ := J_post (i := i) (j := M 6 i % n) (k := 2) (v := M 6 i) (c := M 3 i) hJ (by omega) (Nat.lt_of_le_of_lt (Nat.mod_le _ _) (hJ.1.1 6 _ rfl)) (by decide) (hJ.1.1 6 _ rfl) (hJ.1.1 3 _ rfl)
      have hB := hJ.1
      have hL := hJ.2.1
      have hE := hJ.2.2.1
      refine n_iconst hC 1 dX2_postAgain_43 ?_
      exact q_iret (v := (nI 1)) hC hG hr hlk (by have e : c_pag n M P i = (1, m_pok n M i) := (by simp only [c_pag, if_pos c4x0, if_pos c36]); rw [e]; exact ⟨rfl, Xpost, rfl, hs, hgo⟩) dX2_postAgain_44 (h1 := by decide) (h2 := by decide)
  by_cases c4x1 : M 5 i = 1
  · refine lv_tableIn (off := 54) (tgt := 58) hx hb dX2_postAgain_4 (by rw [c4x1]; decide +kernel) (by rw [c4x1]; decide +kernel) (by rw [c4x1]; decide +kernel) (by decide) ?_
    refine lv_aload_n hx hb dX2_postAgain_58 rfl (lv_at hl 0 rfl) ?_
    refine n_iconst hC 3 dX2_postAgain_59 ?_
    refine n_iconst hC 0 dX2_postAgain_60 ?_
    refine q_callV (rest := []) (k_X2_postToAll l D cA A hs hJ (i := i) (by omega) 3 0 (by omega) (by omega)) hC hG cF2 (g_kn hs (by omega)) 2 gX2_postAgain_X2_postToAll rfl (by decide +kernel) ⟨by decide, by decide⟩ rfl hl.1 rfl (by simp [Value.category]) dX2_postAgain_61 ⟨by decide, by decide⟩ (fun v Y H locs hq hG => ?_)
    obtain ⟨rfl, Xp, rfl, hs, hgp⟩ := hq
    have hgo := go_tr hgo hgp
    have hJ := J_pa (i := i) (k := 3) (v := M 6 i) (c := 0) hJ (by omega) (by omega) (hJ.1.1 6 _ rfl) (by omega) n (by omega)
    have hB := hJ.1
    have hL := hJ.2.1
    have hE := hJ.2.2.1
    refine lv_aload_n hx hb dX2_postAgain_64 rfl (lv_at hl 0 rfl) ?_
    refine q_gw (w := (m_pa M i 3 (M 6 i) 0 n) 8 i) hC hG cF2 i2 (g_kn hs (by omega)) 16 (by decide) rfl (g_n16 (by omega)) k78 dX2_postAgain_65 ?_
    have b2 : (m_pa M i 3 (M 6 i) 0 n) 8 i < 2147483648 := by have := hB.1 8 i rfl; first | exact this | (simp [up2, m_cp, m_cpk] at this; exact this) | omega
    refine n_ifeq (tgt := 78) hC dX2_postAgain_68 (by decide) (by omega) (fun c68 => ?_) (fun c68 => ?_)
    · refine lv_aload_n hx hb dX2_postAgain_78 rfl (lv_at hl 0 rfl) ?_
      refine q_gw (w := n) hC hG cF2 i2 (g_kn hs (by omega)) 1 (by decide) rfl (g_n1 hs (by omega)) k19 dX2_postAgain_79 ?_
      refine n_iconst hC 1 dX2_postAgain_82 ?_
      refine n_isub hC (by omega) dX2_postAgain_83 ?_
      exact q_iret (v := (nI (n - 1))) hC hG hr hlk (by have e : c_pag n M P i = (n - 1, m_pa M i 3 (M 6 i) 0 n) := (by simp only [c_pag, if_neg c4x0, if_pos c4x1, if_pos c68]); rw [e]; exact ⟨rfl, Xp, rfl, hs, hgo⟩) dX2_postAgain_84 (h1 := by decide) (h2 := by decide)
    · refine lv_aload_n hx hb dX2_postAgain_71 rfl (lv_at hl 0 rfl) ?_
      refine q_callV (rest := []) (k_X2_isFirst l D cA A hs hJ (i := i) (by omega)) hC hG cF2 (g_kn hs (by omega)) 0 gX2_postAgain_X2_isFirst rfl (by decide +kernel) ⟨by decide, by decide⟩ rfl hl.1 rfl (by simp [Value.category]) dX2_postAgain_72 ⟨by decide, by decide⟩ (fun v Y H locs hq hG => ?_)
      obtain ⟨rfl, rfl⟩ := hq
      have q72 := m_fst_le n (m_pa M i 3 (M 6 i) 0 n) i
      refine n_ifeq (tgt := 85) hC dX2_postAgain_75 (by decide) (by omega) (fun c75 => ?_) (fun c75 => ?_)
      · refine lv_aload_n hx hb dX2_postAgain_85 rfl (lv_at hl 0 rfl) ?_
        refine q_callV (rest := []) (k_X2_castVote l D cA A hs hJ (i := i) (by omega) ) hC hG cF2 (g_kn hs (by omega)) 0 gX2_postAgain_X2_castVote rfl (by decide +kernel) ⟨by decide, by decide⟩ rfl hl.1 rfl (by simp [Value.category]) dX2_postAgain_86 ⟨by decide, by decide⟩ (fun v Y H locs hq hG => ?_)
        obtain ⟨rfl, Xcast, rfl, hs, hgcast⟩ := hq
        have hgo := go_tr hgo hgcast
        have hJ := J_cast (n := n) hJ (i := i) (by omega) (by omega)
        have hB := hJ.1
        have hL := hJ.2.1
        have hE := hJ.2.2.1
        refine lv_aload_n hx hb dX2_postAgain_89 rfl (lv_at hl 0 rfl) ?_
        refine q_gw (w := n) hC hG cF2 i2 (g_kn hs (by omega)) 1 (by decide) rfl (g_n1 hs (by omega)) k19 dX2_postAgain_90 ?_
        exact q_iret (v := (nI n)) hC hG hr hlk (by have e : c_pag n M P i = (n, c_cast n (m_pa M i 3 (M 6 i) 0 n) i) := (by simp only [c_pag, if_neg c4x0, if_pos c4x1, if_neg c68, if_pos c75]); rw [e]; exact ⟨rfl, Xcast, rfl, hs, hgo⟩) dX2_postAgain_93 (h1 := by decide) (h2 := by decide)
      · refine lv_aload_n hx hb dX2_postAgain_78 rfl (lv_at hl 0 rfl) ?_
        refine q_gw (w := n) hC hG cF2 i2 (g_kn hs (by omega)) 1 (by decide) rfl (g_n1 hs (by omega)) k19 dX2_postAgain_79 ?_
        refine n_iconst hC 1 dX2_postAgain_82 ?_
        refine n_isub hC (by omega) dX2_postAgain_83 ?_
        exact q_iret (v := (nI (n - 1))) hC hG hr hlk (by have e : c_pag n M P i = (n - 1, m_pa M i 3 (M 6 i) 0 n) := (by simp only [c_pag, if_neg c4x0, if_pos c4x1, if_neg c68, if_neg c75]); rw [e]; exact ⟨rfl, Xp, rfl, hs, hgo⟩) dX2_postAgain_84 (h1 := by decide) (h2 := by decide)
  by_cases c4x2 : M 5 i = 2
  · refine lv_tableIn (off := 90) (tgt := 94) hx hb dX2_postAgain_4 (by rw [c4x2]; decide +kernel) (by rw [c4x2]; decide +kernel) (by rw [c4x2]; decide +kernel) (by decide) ?_
    refine lv_aload_n hx hb dX2_postAgain_94 rfl (lv_at hl 0 rfl) ?_
    refine n_bipush hC 6 (by decide) dX2_postAgain_95 ?_
    refine lv_aload_n hx hb dX2_postAgain_97 rfl (lv_at hl 0 rfl) ?_
    refine q_gw (w := P i) hC hG cF2 i2 (g_kn hs (by omega)) 14 (by decide) rfl (g_n14 (by omega)) k119 dX2_postAgain_98 ?_
    refine q_callV (rest := []) (k_X2_postToAll l D cA A hs hJ (i := i) (by omega) 6 (P i) (by omega) (by omega)) hC hG cF2 (g_kn hs (by omega)) 2 gX2_postAgain_X2_postToAll rfl (by decide +kernel) ⟨by decide, by decide⟩ rfl hl.1 rfl (by simp [Value.category]) dX2_postAgain_101 ⟨by decide, by decide⟩ (fun v Y H locs hq hG => ?_)
    obtain ⟨rfl, Xp, rfl, hs, hgp⟩ := hq
    have hgo := go_tr hgo hgp
    have hJ := J_pa (i := i) (k := 6) (v := M 6 i) (c := P i) hJ (by omega) (by omega) (hJ.1.1 6 _ rfl) (by omega) n (by omega)
    have hB := hJ.1
    have hL := hJ.2.1
    have hE := hJ.2.2.1
    refine lv_aload_n hx hb dX2_postAgain_104 rfl (lv_at hl 0 rfl) ?_
    refine q_gw (w := n) hC hG cF2 i2 (g_kn hs (by omega)) 1 (by decide) rfl (g_n1 hs (by omega)) k19 dX2_postAgain_105 ?_
    refine n_iconst hC 1 dX2_postAgain_108 ?_
    refine n_isub hC (by omega) dX2_postAgain_109 ?_
    exact q_iret (v := (nI (n - 1))) hC hG hr hlk (by have e : c_pag n M P i = (n - 1, m_pa M i 6 (M 6 i) (P i) n) := (by simp only [c_pag, if_neg c4x0, if_neg c4x1, if_pos c4x2]); rw [e]; exact ⟨rfl, Xp, rfl, hs, hgo⟩) dX2_postAgain_110 (h1 := by decide) (h2 := by decide)
  refine lv_tableOut (tgt := 111) hx hb dX2_postAgain_4 (by rw [nI_toInt (by omega)]; omega) (by decide) ?_
  refine n_iconst hC 0 dX2_postAgain_111 ?_
  exact q_iret (v := (nI 0)) hC hG hr hlk (by have e : c_pag n M P i = (0, M) := (by simp only [c_pag, if_neg c4x0, if_neg c4x1, if_neg c4x2]); rw [e]; exact ⟨rfl, X, rfl, hs, hgo⟩) dX2_postAgain_112 (h1 := by decide) (h2 := by decide)

abbrev rmX2_loseAll : Room := { frames := 1, cells := 0, slots := 0, locals := 23 }
set_option maxHeartbeats 4000000 in
set_option maxRecDepth 100000 in
theorem k_X2_loseAll (l : Launch) (D : va_G) (cA : Nat → ClassId) (A : Nat → Prop) {b n f : Nat} {X : Mem} {M : MM} {P : Nat → Nat} (hs : Sd b n f X M) (hJ : J M) {i : Nat} (hi : i < n) : mt l D cA A yX2_loseAll wsX2_loseAll rmX2_loseAll [.ref (na b i)] (cM b n X M P) (fun w Y => w = none ∧ ∃ X1, Y = cM b n X1 (m_cz (m_cr1 M i) i 5) (va_up P i 0) ∧ Sd b n f X1 (m_cz (m_cr1 M i) i 5) ∧ go b n X X1) := by
  refine q_start (by decide) rfl (Nat.le_of_ble_eq_true rfl) (fun p e s m args below meth c H locs hC hr hlk hnm hG ls hl => ?_)
  have hl : lv_has ls 1 [(0, .ref (na b i))] := hl
  have hx := hC.1.1
  have hb := hC.1.2.1
  have hts := hC.1.2.2.2.2
  have i2 : ∀ w ∈ wsX20, w ∈ wsX2_loseAll := by decide +kernel
  have hnf := g_nf hs
  have hB := hJ.1
  have hL := hJ.2.1
  have hE := hJ.2.2.1
  have hgo := go_rf b n X
  have k29 := hts (.fieldLink RX2 29 "ViewStamps$Node" "empty" "LViewStamps$Log;") (by decide +kernel)
  have k33 := hts (.fieldLink RX2 33 "ViewStamps$Node" "log" "LViewStamps$Log;") (by decide +kernel)
  have k45 := hts (.fieldLink RX2 45 "ViewStamps$Node" "told" "[I") (by decide +kernel)
  have k48 := hts (.fieldLink RX2 48 "ViewStamps$Node" "status" "I") (by decide +kernel)
  have k51 := hts (.fieldLink RX2 51 "ViewStamps$Node" "view" "I") (by decide +kernel)
  have k54 := hts (.fieldLink RX2 54 "ViewStamps$Node" "lastView" "I") (by decide +kernel)
  have k62 := hts (.fieldLink RX2 62 "ViewStamps$Node" "sure" "I") (by decide +kernel)
  have k119 := hts (.fieldLink RX2 119 "ViewStamps$Node" "nonce" "I") (by decide +kernel)
  refine lv_aload_n hx hb dX2_loseAll_0 rfl (lv_at hl 0 rfl) ?_
  refine n_iconst hC 3 dX2_loseAll_1 ?_
  refine q_puti hC hG cF2 i2 (g_kn hs (by omega)) 9 (by decide) rfl k48 (Or.inl rfl) rfl (by first | rfl | decide) dX2_loseAll_2 (fun H locs hG => ?_)
  rw [cM_n9 (by omega)] at hG
  have hs := Sd_to hs (dq_up (k := 5) (y := i) (v := 3) (by omega))
  have hJ := J_up hJ 5 i (v := 3) (by decide) (Or.inl (by omega))
  have hB := hJ.1
  have hL := hJ.2.1
  have hE := hJ.2.2.1
  refine lv_aload_n hx hb dX2_loseAll_5 rfl (lv_at hl 0 rfl) ?_
  refine n_iconst hC 0 dX2_loseAll_6 ?_
  refine q_puti hC hG cF2 i2 (g_kn hs (by omega)) 10 (by decide) rfl k51 (Or.inl rfl) rfl (by first | rfl | decide) dX2_loseAll_7 (fun H locs hG => ?_)
  rw [cM_n10 (by omega)] at hG
  have hs := Sd_to hs (dq_up (k := 6) (y := i) (v := 0) (by omega))
  have hJ := J_up hJ 6 i (v := 0) (by decide) (Or.inl (by omega))
  have hB := hJ.1
  have hL := hJ.2.1
  have hE := hJ.2.2.1
  refine lv_aload_n hx hb dX2_loseAll_10 rfl (lv_at hl 0 rfl) ?_
  refine n_iconst hC 0 dX2_loseAll_11 ?_
  refine q_puti hC hG cF2 i2 (g_kn hs (by omega)) 13 (by decide) rfl k54 (Or.inl rfl) rfl (by first | rfl | decide) dX2_loseAll_12 (fun H locs hG => ?_)
  rw [cM_n13 (by omega)] at hG
  have hs := Sd_to hs (dq_up (k := 7) (y := i) (v := 0) (by omega))
  have hJ := J_up hJ 7 i (v := 0) (by decide) (Or.inl (by omega))
  have hB := hJ.1
  have hL := hJ.2.1
  have hE := hJ.2.2.1
  refine lv_aload_n hx hb dX2_loseAll_15 rfl (lv_at hl 0 rfl) ?_
  refine n_iconst hC 0 dX2_loseAll_16 ?_
  refine q_puti hC hG cF2 i2 (g_kn hs (by omega)) 11 (by decide) rfl k62 (Or.inl rfl) rfl (by first | rfl | decide) dX2_loseAll_17 (fun H locs hG => ?_)
  rw [cM_n11 (by omega)] at hG
  have hs := Sd_to hs (dq_up (k := 4) (y := i) (v := 0) (by omega))
  have hJ := J_sure hJ i (v := 0) (Nat.zero_le _)
  have hB := hJ.1
  have hL := hJ.2.1
  have hE := hJ.2.2.1
  refine lv_aload_n hx hb dX2_loseAll_20 rfl (lv_at hl 0 rfl) ?_
  refine lv_aload_n hx hb dX2_loseAll_21 rfl (lv_at hl 0 rfl) ?_
  refine q_getr hC hG cF2 i2 (g_kn hs (by omega)) 4 (by decide) rfl (hs.1.2.2.2.2.2.1 i (by omega)).2.1.2.1 k29 dX2_loseAll_22 ?_
  refine q_putr hC hG cF2 i2 (g_kn hs (by omega)) 12 (by decide) rfl k33 (Or.inl rfl) rfl rfl dX2_loseAll_25 (fun H locs hG => ?_)
  rw [cM_wR] at hG
  obtain ⟨ec, hs, hgl, hJ⟩ := c_emp (i := i) P hs hJ (by omega) (up2_self _ _ _ _)
  rw [ec] at hG
  have hgo := go_tr hgo hgl
  have hB := hJ.1
  have hL := hJ.2.1
  have hE := hJ.2.2.1
  refine lv_aload_n hx hb dX2_loseAll_28 rfl (lv_at hl 0 rfl) ?_
  refine n_iconst hC 0 dX2_loseAll_29 ?_
  refine q_puti hC hG cF2 i2 (g_kn hs (by omega)) 14 (by decide) rfl k119 (Or.inl rfl) rfl rfl dX2_loseAll_30 (fun H locs hG => ?_)
  rw [cM_n14 (by omega)] at hG
  refine lv_aload_n hx hb dX2_loseAll_33 rfl (lv_at hl 0 rfl) ?_
  refine q_callV (rest := []) (k_X2_forgetVotes l D cA A hs hJ (i := i) (by omega)) hC hG cF2 (g_kn hs (by omega)) 0 gX2_loseAll_X2_forgetVotes rfl (by decide +kernel) ⟨by decide, by decide⟩ rfl hl.1 rfl (by simp [Value.category]) dX2_loseAll_34 ⟨Nat.le_of_ble_eq_true rfl, Nat.le_of_ble_eq_true rfl⟩ (fun v Y H locs hq hG => ?_)
  obtain ⟨rfl, Xtes, rfl, hs, hgtes⟩ := hq
  have hgo := go_tr hgo hgtes
  have hJ := J_fg hJ i
  have hB := hJ.1
  have hL := hJ.2.1
  have hE := hJ.2.2.1
  have hJz := hJ
  refine lv_aload_n hx hb dX2_loseAll_37 rfl (lv_at hl 0 rfl) ?_
  refine q_callV (rest := []) (k_X2_forgetTales l D cA A hs hJ (i := i) (by omega)) hC hG cF2 (g_kn hs (by omega)) 0 gX2_loseAll_X2_forgetTales rfl (by decide +kernel) ⟨by decide, by decide⟩ rfl hl.1 rfl (by simp [Value.category]) dX2_loseAll_38 ⟨Nat.le_of_ble_eq_true rfl, Nat.le_of_ble_eq_true rfl⟩ (fun v Y H locs hq hG => ?_)
  obtain ⟨rfl, Xles, rfl, hs, hgles⟩ := hq
  have hgo := go_tr hgo hgles
  have hJ := J_rz hJ 14 i n (by decide)
  have hB := hJ.1
  have hL := hJ.2.1
  have hE := hJ.2.2.1
  obtain ⟨ec, hs⟩ := rz14_eq (P := va_up P i 0) (by omega) hs
  rw [ec] at hG
  have hJ := J_rz hJz 14 i 5 (by decide)
  have hB := hJ.1
  have hL := hJ.2.1
  have hE := hJ.2.2.1
  refine lv_aload_n hx hb dX2_loseAll_41 rfl (lv_at hl 0 rfl) ?_
  refine q_getr hC hG cF2 i2 (g_kn hs (by omega)) 8 (by decide) rfl (hs.1.2.2.2.2.2.1 i (by omega)).2.1.2.2.2.2.2 k45 dX2_loseAll_42 ?_
  refine n_iconst hC 0 dX2_loseAll_45 ?_
  refine q_callS (rest := []) (k_J7_fill_53178 l D cA A (Z := cM b n Xles (m_rz (m_fg (up2 (up2 (up2 (up2 (up2 M 5 i 3) 6 i 0) 7 i 0) 4 i 0) 3 i 0) i) 14 i 5) (va_up P i 0)) (a := na b i + 4) (z0 := n) 0 (show kd Xles (na b i + 4) = 7 ∧ ln Xles (na b i + 4) = n from ⟨(hs.1.2.2.2.2.2.1 i (by omega)).2.2.2.2.2.2.2.2.1, (hs.1.2.2.2.2.2.1 i (by omega)).2.2.2.2.2.2.2.2.2⟩).1 (show kd Xles (na b i + 4) = 7 ∧ ln Xles (na b i + 4) = n from ⟨(hs.1.2.2.2.2.2.1 i (by omega)).2.2.2.2.2.2.2.2.1, (hs.1.2.2.2.2.2.1 i (by omega)).2.2.2.2.2.2.2.2.2⟩).2 (by omega)) hC hG 2 gX2_loseAll_J7_fill_53178 rfl (by decide +kernel) ⟨by decide, by decide⟩ rfl hl.1 rfl (by simp [Value.category]) dX2_loseAll_46 ⟨Nat.le_of_ble_eq_true rfl, Nat.le_of_ble_eq_true rfl⟩ (fun v Y H locs hq hG => ?_)
  obtain ⟨rfl, rfl⟩ := hq
  rw [cM_fl (by omega) (by omega)] at hG
  have hs := Sd_kz hs i 5
  have hJ := J_kz hJ i 5
  have hB := hJ.1
  have hL := hJ.2.1
  have hE := hJ.2.2.1
  exact q_vret hC hG hr hlk (by have e : m_cz (m_cr1 M i) i 5 = m_kz (m_rz (m_fg (up2 (up2 (up2 (up2 (up2 M 5 i 3) 6 i 0) 7 i 0) 4 i 0) 3 i 0) i) 14 i 5) i 5 := (by rw [cz_eq, m_cr1, up2_comm _ _ _ (show (3 : Nat) ≠ 4 by decide)]); rw [e]; exact ⟨rfl, Xles, rfl, hs, hgo⟩) dX2_loseAll_49

abbrev rmX2_startRecovery : Room := { frames := 4, cells := 5, slots := 40, locals := 94 }
set_option maxHeartbeats 4000000 in
set_option maxRecDepth 100000 in
theorem k_X2_startRecovery (l : Launch) (D : va_G) (cA : Nat → ClassId) (A : Nat → Prop) {b n f : Nat} {X : Mem} {M : MM} {P : Nat → Nat} (hs : Sd b n f X M) (hJ : J M) {i : Nat} (hi : i < n) (c0 : Nat) (hc0 : c0 < 2147483648) (h60 : M 6 i = 0) : mt l D cA A yX2_startRecovery wsX2_startRecovery rmX2_startRecovery [.ref (na b i), .int (nI c0)] (cM b n X M P) (fun w Y => w = none ∧ ∃ X1, Y = cM b n X1 (m_pa (m_rc1 M i c0) i 6 0 c0 n) (va_up P i c0) ∧ Sd b n f X1 (m_pa (m_rc1 M i c0) i 6 0 c0 n) ∧ go b n X X1) := by
  refine q_start (by decide) rfl (Nat.le_of_ble_eq_true rfl) (fun p e s m args below meth c H locs hC hr hlk hnm hG ls hl => ?_)
  have hl : lv_has ls 2 [(0, .ref (na b i)), (1, .int (nI c0))] := hl
  have hx := hC.1.1
  have hb := hC.1.2.1
  have hts := hC.1.2.2.2.2
  have i2 : ∀ w ∈ wsX20, w ∈ wsX2_startRecovery := by decide +kernel
  have hnf := g_nf hs
  have hB := hJ.1
  have hL := hJ.2.1
  have hE := hJ.2.2.1
  have hgo := go_rf b n X
  have hJ0 := hJ
  have k48 := hts (.fieldLink RX2 48 "ViewStamps$Node" "status" "I") (by decide +kernel)
  have k119 := hts (.fieldLink RX2 119 "ViewStamps$Node" "nonce" "I") (by decide +kernel)
  refine lv_aload_n hx hb dX2_startRecovery_0 rfl (lv_at hl 0 rfl) ?_
  refine n_iconst hC 2 dX2_startRecovery_1 ?_
  refine q_puti hC hG cF2 i2 (g_kn hs (by omega)) 9 (by decide) rfl k48 (Or.inl rfl) rfl (by first | rfl | decide) dX2_startRecovery_2 (fun H locs hG => ?_)
  rw [cM_n9 (by omega)] at hG
  have hs := Sd_to hs (dq_up (k := 5) (y := i) (v := 2) (by omega))
  have hJ := J_up hJ 5 i (v := 2) (by decide) (Or.inl (by omega))
  have hB := hJ.1
  have hL := hJ.2.1
  have hE := hJ.2.2.1
  refine lv_aload_n hx hb dX2_startRecovery_5 rfl (lv_at hl 0 rfl) ?_
  refine lv_iload_n hx hb dX2_startRecovery_6 rfl (lv_at hl 1 rfl) ?_
  refine q_puti hC hG cF2 i2 (g_kn hs (by omega)) 14 (by decide) rfl k119 (Or.inl rfl) rfl rfl dX2_startRecovery_7 (fun H locs hG => ?_)
  rw [cM_n14 (by omega)] at hG
  refine lv_aload_n hx hb dX2_startRecovery_10 rfl (lv_at hl 0 rfl) ?_
  refine q_callV (rest := []) (k_X2_forgetTales l D cA A hs hJ (i := i) (by omega)) hC hG cF2 (g_kn hs (by omega)) 0 gX2_startRecovery_X2_forgetTales rfl (by decide +kernel) ⟨by decide, by decide⟩ rfl hl.1 rfl (by simp [Value.category]) dX2_startRecovery_11 ⟨by decide, by decide⟩ (fun v Y H locs hq hG => ?_)
  obtain ⟨rfl, Xles, rfl, hs, hgles⟩ := hq
  have hgo := go_tr hgo hgles
  have hJ := J_rz hJ 14 i n (by decide)
  have hB := hJ.1
  have hL := hJ.2.1
  have hE := hJ.2.2.1
  obtain ⟨ec, hs, hJ⟩ := rc1_eq (P := va_up P i c0) (by omega) hJ0 hc0 hs
  rw [ec] at hG
  have hB := hJ.1
  have hL := hJ.2.1
  have hE := hJ.2.2.1
  refine lv_aload_n hx hb dX2_startRecovery_14 rfl (lv_at hl 0 rfl) ?_
  refine n_bipush hC 6 (by decide) dX2_startRecovery_15 ?_
  refine lv_aload_n hx hb dX2_startRecovery_17 rfl (lv_at hl 0 rfl) ?_
  refine q_gw (w := c0) hC hG cF2 i2 (g_kn hs (by omega)) 14 (by decide) rfl ((g_n14 (by omega)).trans (va_up_self _ _ _)) k119 dX2_startRecovery_18 ?_
  refine q_callV (rest := []) (k_X2_postToAll l D cA A hs hJ (i := i) (by omega) 6 c0 (by omega) (by omega)) hC hG cF2 (g_kn hs (by omega)) 2 gX2_startRecovery_X2_postToAll rfl (by decide +kernel) ⟨by decide, by decide⟩ rfl hl.1 rfl (by simp [Value.category]) dX2_startRecovery_21 ⟨by decide, by decide⟩ (fun v Y H locs hq hG => ?_)
  obtain ⟨rfl, Xp, rfl, hs, hgp⟩ := hq
  have hgo := go_tr hgo hgp
  have hJ := J_pa (i := i) (k := 6) (v := (m_rc1 M i c0) 6 i) (c := c0) hJ (by omega) (by omega) (hJ.1.1 6 _ rfl) (by omega) n (by omega)
  have hB := hJ.1
  have hL := hJ.2.1
  have hE := hJ.2.2.1
  exact q_vret hC hG hr hlk (by have e6 : m_rc1 M i c0 6 i = 0 := (by rw [m_rc1, m_tz, if_neg (by omega), up2_ne _ _ (by omega), up2_ne _ _ (by omega)]; exact h60); rw [e6] at hs ⊢; exact ⟨rfl, Xp, rfl, hs, hgo⟩) dX2_startRecovery_24 (h1 := by decide) (h2 := by decide)

abbrev rmX2_field : Room := { frames := 1, cells := 0, slots := 0, locals := 25 }
set_option maxHeartbeats 4000000 in
set_option maxRecDepth 100000 in
theorem k_X2_field (l : Launch) (D : va_G) (cA : Nat → ClassId) (A : Nat → Prop) {b n f : Nat} {X : Mem} {M : MM} {P : Nat → Nat} (hs : Sd b n f X M) (hJ : J M) {i : Nat} (hi : i < n) (what : Int32) : mt l D cA A yX2_field wsX2_field rmX2_field [.ref (na b i), .int what] (cM b n X M P) (fun w Y => w = some (.int (m_nd n M i what)) ∧ Y = cM b n X M P) := by
  refine q_start (by decide) rfl (Nat.le_of_ble_eq_true rfl) (fun p e s m args below meth c H locs hC hr hlk hnm hG ls hl => ?_)
  have hl : lv_has ls 3 [(0, .ref (na b i)), (1, .int what)] := hl
  have hx := hC.1.1
  have hb := hC.1.2.1
  have hts := hC.1.2.2.2.2
  have i2 : ∀ w ∈ wsX20, w ∈ wsX2_field := by decide +kernel
  have hnf := g_nf hs
  have hB := hJ.1
  have hL := hJ.2.1
  have hE := hJ.2.2.1
  have k33 := hts (.fieldLink RX2 33 "ViewStamps$Node" "log" "LViewStamps$Log;") (by decide +kernel)
  have k38 := hts (.fieldLink RX2 38 "ViewStamps$Node" "votes" "[LViewStamps$Letter;") (by decide +kernel)
  have k42 := hts (.fieldLink RX2 42 "ViewStamps$Node" "tales" "[LViewStamps$Letter;") (by decide +kernel)
  have k48 := hts (.fieldLink RX2 48 "ViewStamps$Node" "status" "I") (by decide +kernel)
  have k51 := hts (.fieldLink RX2 51 "ViewStamps$Node" "view" "I") (by decide +kernel)
  have k54 := hts (.fieldLink RX2 54 "ViewStamps$Node" "lastView" "I") (by decide +kernel)
  have k62 := hts (.fieldLink RX2 62 "ViewStamps$Node" "sure" "I") (by decide +kernel)
  have k65 := hts (.fieldLink RX2 65 "ViewStamps$Node" "voters" "I") (by decide +kernel)
  have k78 := hts (.fieldLink RX2 78 "ViewStamps$Node" "voted" "Z") (by decide +kernel)
  refine lv_aload_n hx hb dX2_field_0 rfl (lv_at hl 0 rfl) ?_
  refine q_gw (w := M 5 i) hC hG cF2 i2 (g_kn hs (by omega)) 9 (by decide) rfl (g_n9 (by omega)) k48 dX2_field_1 ?_
  have b1 : M 5 i < 2147483648 := by have := hB.1 5 i rfl; first | exact this | (simp [up2, m_cp, m_cpk] at this; exact this) | omega
  refine n_iconst hC 1 dX2_field_4 ?_
  refine n_ne (tgt := 12) hC dX2_field_5 (by decide) (by omega) (by omega) (fun c5 => ?_) (fun c5 => ?_)
  · refine n_iconst hC 0 dX2_field_12 ?_
    refine lv_istore_n (lv' := [(2, .int (nI 0)), (0, .ref (na b i)), (1, .int what)]) hx hb dX2_field_13 rfl hl (by decide) rfl (fun ls hl => ?_)
    refine lv_iload_n hx hb dX2_field_14 rfl (lv_at hl 2 rfl) ?_
    by_cases c15x0 : what = nI 0
    · refine lv_tableIn (off := 49) (tgt := 64) hx hb dX2_field_15 (by rw [c15x0]; decide +kernel) (by rw [c15x0]; decide +kernel) (by rw [c15x0]; decide +kernel) (by decide) ?_
      refine lv_aload_n hx hb dX2_field_64 rfl (lv_at hl 1 rfl) ?_
      refine q_gw (w := M 5 i) hC hG cF2 i2 (g_kn hs (by omega)) 9 (by decide) rfl (g_n9 (by omega)) k48 dX2_field_65 ?_
      have b2 : M 5 i < 2147483648 := by have := hB.1 5 i rfl; first | exact this | (simp [up2, m_cp, m_cpk] at this; exact this) | omega
      exact q_iret (v := (nI (M 5 i))) hC hG hr hlk (⟨by simp only [m_nd, if_neg c5, if_pos c15x0], rfl⟩) dX2_field_68
    by_cases c15x1 : what = nI 1
    · refine lv_tableIn (off := 54) (tgt := 69) hx hb dX2_field_15 (by rw [c15x1]; decide +kernel) (by rw [c15x1]; decide +kernel) (by rw [c15x1]; decide +kernel) (by decide) ?_
      refine lv_aload_n hx hb dX2_field_69 rfl (lv_at hl 1 rfl) ?_
      refine q_gw (w := M 6 i) hC hG cF2 i2 (g_kn hs (by omega)) 10 (by decide) rfl (g_n10 (by omega)) k51 dX2_field_70 ?_
      have b3 : M 6 i < 2147483648 := by have := hB.1 6 i rfl; first | exact this | (simp [up2, m_cp, m_cpk] at this; exact this) | omega
      exact q_iret (v := (nI (M 6 i))) hC hG hr hlk (⟨by simp only [m_nd, if_neg c5, if_neg c15x0, if_pos c15x1], rfl⟩) dX2_field_73
    by_cases c15x2 : what = nI 2
    · refine lv_tableIn (off := 59) (tgt := 74) hx hb dX2_field_15 (by rw [c15x2]; decide +kernel) (by rw [c15x2]; decide +kernel) (by rw [c15x2]; decide +kernel) (by decide) ?_
      refine lv_aload_n hx hb dX2_field_74 rfl (lv_at hl 1 rfl) ?_
      refine q_gw (w := M 7 i) hC hG cF2 i2 (g_kn hs (by omega)) 13 (by decide) rfl (g_n13 (by omega)) k54 dX2_field_75 ?_
      have b4 : M 7 i < 2147483648 := by have := hB.1 7 i rfl; first | exact this | (simp [up2, m_cp, m_cpk] at this; exact this) | omega
      exact q_iret (v := (nI (M 7 i))) hC hG hr hlk (⟨by simp only [m_nd, if_neg c5, if_neg c15x0, if_neg c15x1, if_pos c15x2], rfl⟩) dX2_field_78
    by_cases c15x3 : what = nI 3
    · refine lv_tableIn (off := 64) (tgt := 79) hx hb dX2_field_15 (by rw [c15x3]; decide +kernel) (by rw [c15x3]; decide +kernel) (by rw [c15x3]; decide +kernel) (by decide) ?_
      refine lv_aload_n hx hb dX2_field_79 rfl (lv_at hl 1 rfl) ?_
      obtain ⟨lgn5, hlgn5a, hlgn5⟩ := hs.2.2.2.1 i (by omega)
      have hLlgn5 := hL i (by omega)
      refine q_getr hC hG cF2 i2 (g_kn hs (by omega)) 12 (by decide) rfl hlgn5a k33 dX2_field_80 ?_
      refine q_callV (rest := []) (k_X1_size l D cA A hs hlgn5 hLlgn5.1) hC hG cF1 hlgn5.1 0 gX2_field_X1_size rfl (by decide +kernel) ⟨by decide, by decide⟩ rfl hl.1 rfl (by simp [Value.category]) dX2_field_83 ⟨Nat.le_of_ble_eq_true rfl, Nat.le_of_ble_eq_true rfl⟩ (fun v Y H locs hq hG => ?_)
      obtain ⟨rfl, rfl⟩ := hq
      exact q_iret (v := (nI (M 3 i))) hC hG hr hlk (⟨by simp only [m_nd, if_neg c5, if_neg c15x0, if_neg c15x1, if_neg c15x2, if_pos c15x3], rfl⟩) dX2_field_86
    by_cases c15x4 : what = nI 4
    · refine lv_tableIn (off := 72) (tgt := 87) hx hb dX2_field_15 (by rw [c15x4]; decide +kernel) (by rw [c15x4]; decide +kernel) (by rw [c15x4]; decide +kernel) (by decide) ?_
      refine lv_aload_n hx hb dX2_field_87 rfl (lv_at hl 1 rfl) ?_
      refine q_gw (w := M 4 i) hC hG cF2 i2 (g_kn hs (by omega)) 11 (by decide) rfl (g_n11 (by omega)) k62 dX2_field_88 ?_
      have b6 : M 4 i < 2147483648 := by have := hB.1 4 i rfl; first | exact this | (simp [up2, m_cp, m_cpk] at this; exact this) | omega
      exact q_iret (v := (nI (M 4 i))) hC hG hr hlk (⟨by simp only [m_nd, if_neg c5, if_neg c15x0, if_neg c15x1, if_neg c15x2, if_neg c15x3, if_pos c15x4], rfl⟩) dX2_field_91
    by_cases c15x5 : what = nI 5
    · refine lv_tableIn (off := 77) (tgt := 92) hx hb dX2_field_15 (by rw [c15x5]; decide +kernel) (by rw [c15x5]; decide +kernel) (by rw [c15x5]; decide +kernel) (by decide) ?_
      refine lv_iload_n hx hb dX2_field_92 rfl (lv_at hl 0 rfl) ?_
      refine n_ifeq (tgt := 106) hC dX2_field_93 (by decide) (by omega) (fun c93 => ?_) (fun c93 => ?_)
      · refine n_iconst hC 0 dX2_field_106 ?_
        exact q_iret (v := (nI 0)) hC hG hr hlk (⟨by simp only [m_nd, if_neg c5, if_neg c15x0, if_neg c15x1, if_neg c15x2, if_neg c15x3, if_neg c15x4, if_pos c15x5, if_pos c93], rfl⟩) dX2_field_107
      · exact absurd c93 (by decide)
    by_cases c15x6 : what = nI 6
    · refine lv_tableIn (off := 93) (tgt := 108) hx hb dX2_field_15 (by rw [c15x6]; decide +kernel) (by rw [c15x6]; decide +kernel) (by rw [c15x6]; decide +kernel) (by decide) ?_
      refine lv_iload_n hx hb dX2_field_108 rfl (lv_at hl 0 rfl) ?_
      refine n_ifeq (tgt := 122) hC dX2_field_109 (by decide) (by omega) (fun c109 => ?_) (fun c109 => ?_)
      · refine n_iconst hC 0 dX2_field_122 ?_
        exact q_iret (v := (nI 0)) hC hG hr hlk (⟨by simp only [m_nd, if_neg c5, if_neg c15x0, if_neg c15x1, if_neg c15x2, if_neg c15x3, if_neg c15x4, if_neg c15x5, if_pos c15x6, if_pos c109], rfl⟩) dX2_field_123
      · exact absurd c109 (by decide)
    by_cases c15x7 : what = nI 7
    · refine lv_tableIn (off := 109) (tgt := 124) hx hb dX2_field_15 (by rw [c15x7]; decide +kernel) (by rw [c15x7]; decide +kernel) (by rw [c15x7]; decide +kernel) (by decide) ?_
      refine lv_iload_n hx hb dX2_field_124 rfl (lv_at hl 0 rfl) ?_
      refine n_ifeq (tgt := 139) hC dX2_field_125 (by decide) (by omega) (fun c125 => ?_) (fun c125 => ?_)
      · refine n_iconst hC 0 dX2_field_139 ?_
        exact q_iret (v := (nI 0)) hC hG hr hlk (⟨by simp only [m_nd, if_neg c5, if_neg c15x0, if_neg c15x1, if_neg c15x2, if_neg c15x3, if_neg c15x4, if_neg c15x5, if_neg c15x6, if_pos c15x7, if_pos c125], rfl⟩) dX2_field_140
      · exact absurd c125 (by decide)
    by_cases c15x8 : what = nI 8
    · refine lv_tableIn (off := 126) (tgt := 141) hx hb dX2_field_15 (by rw [c15x8]; decide +kernel) (by rw [c15x8]; decide +kernel) (by rw [c15x8]; decide +kernel) (by decide) ?_
      refine lv_aload_n hx hb dX2_field_141 rfl (lv_at hl 1 rfl) ?_
      refine q_gw (w := M 5 i) hC hG cF2 i2 (g_kn hs (by omega)) 9 (by decide) rfl (g_n9 (by omega)) k48 dX2_field_142 ?_
      have b7 : M 5 i < 2147483648 := by have := hB.1 5 i rfl; first | exact this | (simp [up2, m_cp, m_cpk] at this; exact this) | omega
      refine n_iconst hC 2 dX2_field_145 ?_
      refine n_ne (tgt := 159) hC dX2_field_146 (by decide) (by omega) (by omega) (fun c146 => ?_) (fun c146 => ?_)
      · refine n_iconst hC 0 dX2_field_159 ?_
        exact q_iret (v := (nI 0)) hC hG hr hlk (⟨by simp only [m_nd, if_neg c5, if_neg c15x0, if_neg c15x1, if_neg c15x2, if_neg c15x3, if_neg c15x4, if_neg c15x5, if_neg c15x6, if_neg c15x7, if_pos c15x8, if_neg c146], rfl⟩) dX2_field_160
      · refine lv_aload_n hx hb dX2_field_149 rfl (lv_at hl 1 rfl) ?_
        refine q_getr hC hG cF2 i2 (g_kn hs (by omega)) 6 (by decide) rfl (hs.1.2.2.2.2.2.1 i (by omega)).2.1.2.2.2.1 k42 dX2_field_150 ?_
        refine q_callS (rest := []) (k_X2_countLetters l D cA A (Z := cM b n X M P) (a := na b i + 3) (z0 := n) (show kd X (na b i + 3) = 9 ∧ ln X (na b i + 3) = n from ⟨(hs.1.2.2.2.2.2.1 i (by omega)).2.2.2.2.2.2.1, (hs.1.2.2.2.2.2.1 i (by omega)).2.2.2.2.2.2.2.1⟩).1 (show kd X (na b i + 3) = 9 ∧ ln X (na b i + 3) = n from ⟨(hs.1.2.2.2.2.2.1 i (by omega)).2.2.2.2.2.2.1, (hs.1.2.2.2.2.2.1 i (by omega)).2.2.2.2.2.2.2.1⟩).2 (by omega)) hC hG 1 gX2_field_X2_countLetters rfl (by decide +kernel) ⟨by decide, by decide⟩ rfl hl.1 rfl (by simp [Value.category]) dX2_field_153 ⟨Nat.le_of_ble_eq_true rfl, Nat.le_of_ble_eq_true rfl⟩ (fun v Y H locs hq hG => ?_)
        obtain ⟨rfl, rfl⟩ := hq
        rw [show c_cl (rv (cM b n X M P) (na b i + 3)) n = m_cnt M 14 (5 * i) n from (show c_cl (rv X (na b i + 3)) n = _ from c_tales hs (by omega))]
        have q153 := m_cnt_le M 14 (5 * i) n
        refine lv_goto (tgt := 160) hx hb dX2_field_156 (by decide) ?_
        exact q_iret (v := (nI (m_cnt M 14 (5 * i) n))) hC hG hr hlk (⟨by simp only [m_nd, if_neg c5, if_neg c15x0, if_neg c15x1, if_neg c15x2, if_neg c15x3, if_neg c15x4, if_neg c15x5, if_neg c15x6, if_neg c15x7, if_pos c15x8, if_pos c146], rfl⟩) dX2_field_160
    refine lv_tableOut (tgt := 161) hx hb dX2_field_15 (sw_out (hi := 8) (fun v hv => by rcases (show v = 0 ∨ v = 1 ∨ v = 2 ∨ v = 3 ∨ v = 4 ∨ v = 5 ∨ v = 6 ∨ v = 7 ∨ v = 8 by omega) with rfl | rfl | rfl | rfl | rfl | rfl | rfl | rfl | rfl <;> assumption)) (by decide) ?_
    refine lv_bipush (v := -2) hx hb dX2_field_161 (by decide) ?_
    exact q_iret (v := (-2)) hC hG hr hlk (⟨by simp only [m_nd, if_neg c5, if_neg c15x0, if_neg c15x1, if_neg c15x2, if_neg c15x3, if_neg c15x4, if_neg c15x5, if_neg c15x6, if_neg c15x7, if_neg c15x8], rfl⟩) dX2_field_163
  · refine n_iconst hC 1 dX2_field_8 ?_
    refine lv_goto (tgt := 13) hx hb dX2_field_9 (by decide) ?_
    refine lv_istore_n (lv' := [(2, .int (nI 1)), (0, .ref (na b i)), (1, .int what)]) hx hb dX2_field_13 rfl hl (by decide) rfl (fun ls hl => ?_)
    refine lv_iload_n hx hb dX2_field_14 rfl (lv_at hl 2 rfl) ?_
    by_cases c15x0 : what = nI 0
    · refine lv_tableIn (off := 49) (tgt := 64) hx hb dX2_field_15 (by rw [c15x0]; decide +kernel) (by rw [c15x0]; decide +kernel) (by rw [c15x0]; decide +kernel) (by decide) ?_
      refine lv_aload_n hx hb dX2_field_64 rfl (lv_at hl 1 rfl) ?_
      refine q_gw (w := M 5 i) hC hG cF2 i2 (g_kn hs (by omega)) 9 (by decide) rfl (g_n9 (by omega)) k48 dX2_field_65 ?_
      have b8 : M 5 i < 2147483648 := by have := hB.1 5 i rfl; first | exact this | (simp [up2, m_cp, m_cpk] at this; exact this) | omega
      exact q_iret (v := (nI (M 5 i))) hC hG hr hlk (⟨by simp only [m_nd, if_pos c5, if_pos c15x0], rfl⟩) dX2_field_68
    by_cases c15x1 : what = nI 1
    · refine lv_tableIn (off := 54) (tgt := 69) hx hb dX2_field_15 (by rw [c15x1]; decide +kernel) (by rw [c15x1]; decide +kernel) (by rw [c15x1]; decide +kernel) (by decide) ?_
      refine lv_aload_n hx hb dX2_field_69 rfl (lv_at hl 1 rfl) ?_
      refine q_gw (w := M 6 i) hC hG cF2 i2 (g_kn hs (by omega)) 10 (by decide) rfl (g_n10 (by omega)) k51 dX2_field_70 ?_
      have b9 : M 6 i < 2147483648 := by have := hB.1 6 i rfl; first | exact this | (simp [up2, m_cp, m_cpk] at this; exact this) | omega
      exact q_iret (v := (nI (M 6 i))) hC hG hr hlk (⟨by simp only [m_nd, if_pos c5, if_neg c15x0, if_pos c15x1], rfl⟩) dX2_field_73
    by_cases c15x2 : what = nI 2
    · refine lv_tableIn (off := 59) (tgt := 74) hx hb dX2_field_15 (by rw [c15x2]; decide +kernel) (by rw [c15x2]; decide +kernel) (by rw [c15x2]; decide +kernel) (by decide) ?_
      refine lv_aload_n hx hb dX2_field_74 rfl (lv_at hl 1 rfl) ?_
      refine q_gw (w := M 7 i) hC hG cF2 i2 (g_kn hs (by omega)) 13 (by decide) rfl (g_n13 (by omega)) k54 dX2_field_75 ?_
      have b10 : M 7 i < 2147483648 := by have := hB.1 7 i rfl; first | exact this | (simp [up2, m_cp, m_cpk] at this; exact this) | omega
      exact q_iret (v := (nI (M 7 i))) hC hG hr hlk (⟨by simp only [m_nd, if_pos c5, if_neg c15x0, if_neg c15x1, if_pos c15x2], rfl⟩) dX2_field_78
    by_cases c15x3 : what = nI 3
    · refine lv_tableIn (off := 64) (tgt := 79) hx hb dX2_field_15 (by rw [c15x3]; decide +kernel) (by rw [c15x3]; decide +kernel) (by rw [c15x3]; decide +kernel) (by decide) ?_
      refine lv_aload_n hx hb dX2_field_79 rfl (lv_at hl 1 rfl) ?_
      obtain ⟨lgn11, hlgn11a, hlgn11⟩ := hs.2.2.2.1 i (by omega)
      have hLlgn11 := hL i (by omega)
      refine q_getr hC hG cF2 i2 (g_kn hs (by omega)) 12 (by decide) rfl hlgn11a k33 dX2_field_80 ?_
      refine q_callV (rest := []) (k_X1_size l D cA A hs hlgn11 hLlgn11.1) hC hG cF1 hlgn11.1 0 gX2_field_X1_size rfl (by decide +kernel) ⟨by decide, by decide⟩ rfl hl.1 rfl (by simp [Value.category]) dX2_field_83 ⟨Nat.le_of_ble_eq_true rfl, Nat.le_of_ble_eq_true rfl⟩ (fun v Y H locs hq hG => ?_)
      obtain ⟨rfl, rfl⟩ := hq
      exact q_iret (v := (nI (M 3 i))) hC hG hr hlk (⟨by simp only [m_nd, if_pos c5, if_neg c15x0, if_neg c15x1, if_neg c15x2, if_pos c15x3], rfl⟩) dX2_field_86
    by_cases c15x4 : what = nI 4
    · refine lv_tableIn (off := 72) (tgt := 87) hx hb dX2_field_15 (by rw [c15x4]; decide +kernel) (by rw [c15x4]; decide +kernel) (by rw [c15x4]; decide +kernel) (by decide) ?_
      refine lv_aload_n hx hb dX2_field_87 rfl (lv_at hl 1 rfl) ?_
      refine q_gw (w := M 4 i) hC hG cF2 i2 (g_kn hs (by omega)) 11 (by decide) rfl (g_n11 (by omega)) k62 dX2_field_88 ?_
      have b12 : M 4 i < 2147483648 := by have := hB.1 4 i rfl; first | exact this | (simp [up2, m_cp, m_cpk] at this; exact this) | omega
      exact q_iret (v := (nI (M 4 i))) hC hG hr hlk (⟨by simp only [m_nd, if_pos c5, if_neg c15x0, if_neg c15x1, if_neg c15x2, if_neg c15x3, if_pos c15x4], rfl⟩) dX2_field_91
    by_cases c15x5 : what = nI 5
    · refine lv_tableIn (off := 77) (tgt := 92) hx hb dX2_field_15 (by rw [c15x5]; decide +kernel) (by rw [c15x5]; decide +kernel) (by rw [c15x5]; decide +kernel) (by decide) ?_
      refine lv_iload_n hx hb dX2_field_92 rfl (lv_at hl 0 rfl) ?_
      refine n_ifeq (tgt := 106) hC dX2_field_93 (by decide) (by omega) (fun c93 => ?_) (fun c93 => ?_)
      · exact absurd c93 (by decide)
      · refine lv_aload_n hx hb dX2_field_96 rfl (lv_at hl 1 rfl) ?_
        refine q_gw (w := vm M (5 * i) n) hC hG cF2 i2 (g_kn hs (by omega)) 15 (by decide) rfl (g_n15 (by omega)) k65 dX2_field_97 ?_
        refine q_callS (rest := []) (k_J6_bitCount_0f7a4 l D cA A (nI (vm M (5 * i) n))) hC hG 1 gX2_field_J6_bitCount_0f7a4 rfl (by decide +kernel) ⟨by decide, by decide⟩ rfl hl.1 rfl (by simp [Value.category]) dX2_field_100 ⟨Nat.le_of_ble_eq_true rfl, Nat.le_of_ble_eq_true rfl⟩ (fun v Y H locs hq hG => ?_)
        obtain ⟨rfl, rfl⟩ := hq
        rw [vm_bc M _ hnf]
        have q100 := m_cnt_le M 11 (5 * i) n
        refine lv_goto (tgt := 107) hx hb dX2_field_103 (by decide) ?_
        exact q_iret (v := (nI (m_cnt M 11 (5 * i) n))) hC hG hr hlk (⟨by simp only [m_nd, if_pos c5, if_neg c15x0, if_neg c15x1, if_neg c15x2, if_neg c15x3, if_neg c15x4, if_pos c15x5, if_neg c93], rfl⟩) dX2_field_107
    by_cases c15x6 : what = nI 6
    · refine lv_tableIn (off := 93) (tgt := 108) hx hb dX2_field_15 (by rw [c15x6]; decide +kernel) (by rw [c15x6]; decide +kernel) (by rw [c15x6]; decide +kernel) (by decide) ?_
      refine lv_iload_n hx hb dX2_field_108 rfl (lv_at hl 0 rfl) ?_
      refine n_ifeq (tgt := 122) hC dX2_field_109 (by decide) (by omega) (fun c109 => ?_) (fun c109 => ?_)
      · exact absurd c109 (by decide)
      · refine lv_aload_n hx hb dX2_field_112 rfl (lv_at hl 1 rfl) ?_
        refine q_getr hC hG cF2 i2 (g_kn hs (by omega)) 5 (by decide) rfl (hs.1.2.2.2.2.2.1 i (by omega)).2.1.2.2.1 k38 dX2_field_113 ?_
        refine q_callS (rest := []) (k_X2_countLetters l D cA A (Z := cM b n X M P) (a := na b i + 2) (z0 := n) (show kd X (na b i + 2) = 9 ∧ ln X (na b i + 2) = n from ⟨(hs.1.2.2.2.2.2.1 i (by omega)).2.2.2.2.1, (hs.1.2.2.2.2.2.1 i (by omega)).2.2.2.2.2.1⟩).1 (show kd X (na b i + 2) = 9 ∧ ln X (na b i + 2) = n from ⟨(hs.1.2.2.2.2.2.1 i (by omega)).2.2.2.2.1, (hs.1.2.2.2.2.2.1 i (by omega)).2.2.2.2.2.1⟩).2 (by omega)) hC hG 1 gX2_field_X2_countLetters rfl (by decide +kernel) ⟨by decide, by decide⟩ rfl hl.1 rfl (by simp [Value.category]) dX2_field_116 ⟨Nat.le_of_ble_eq_true rfl, Nat.le_of_ble_eq_true rfl⟩ (fun v Y H locs hq hG => ?_)
        obtain ⟨rfl, rfl⟩ := hq
        rw [show c_cl (rv (cM b n X M P) (na b i + 2)) n = m_cnt M 12 (5 * i) n from (show c_cl (rv X (na b i + 2)) n = _ from c_votes hs (by omega))]
        have q116 := m_cnt_le M 12 (5 * i) n
        refine lv_goto (tgt := 123) hx hb dX2_field_119 (by decide) ?_
        exact q_iret (v := (nI (m_cnt M 12 (5 * i) n))) hC hG hr hlk (⟨by simp only [m_nd, if_pos c5, if_neg c15x0, if_neg c15x1, if_neg c15x2, if_neg c15x3, if_neg c15x4, if_neg c15x5, if_pos c15x6, if_neg c109], rfl⟩) dX2_field_123
    by_cases c15x7 : what = nI 7
    · refine lv_tableIn (off := 109) (tgt := 124) hx hb dX2_field_15 (by rw [c15x7]; decide +kernel) (by rw [c15x7]; decide +kernel) (by rw [c15x7]; decide +kernel) (by decide) ?_
      refine lv_iload_n hx hb dX2_field_124 rfl (lv_at hl 0 rfl) ?_
      refine n_ifeq (tgt := 139) hC dX2_field_125 (by decide) (by omega) (fun c125 => ?_) (fun c125 => ?_)
      · exact absurd c125 (by decide)
      · refine lv_aload_n hx hb dX2_field_128 rfl (lv_at hl 1 rfl) ?_
        refine q_gw (w := M 8 i) hC hG cF2 i2 (g_kn hs (by omega)) 16 (by decide) rfl (g_n16 (by omega)) k78 dX2_field_129 ?_
        have b13 : M 8 i < 2147483648 := by have := hB.1 8 i rfl; first | exact this | (simp [up2, m_cp, m_cpk] at this; exact this) | omega
        refine n_ifeq (tgt := 139) hC dX2_field_132 (by decide) (by omega) (fun c132 => ?_) (fun c132 => ?_)
        · refine n_iconst hC 0 dX2_field_139 ?_
          exact q_iret (v := (nI 0)) hC hG hr hlk (⟨by simp only [m_nd, if_pos c5, if_neg c15x0, if_neg c15x1, if_neg c15x2, if_neg c15x3, if_neg c15x4, if_neg c15x5, if_neg c15x6, if_pos c15x7, if_neg c125, if_pos c132], rfl⟩) dX2_field_140
        · refine n_iconst hC 1 dX2_field_135 ?_
          refine lv_goto (tgt := 140) hx hb dX2_field_136 (by decide) ?_
          exact q_iret (v := (nI 1)) hC hG hr hlk (⟨by simp only [m_nd, if_pos c5, if_neg c15x0, if_neg c15x1, if_neg c15x2, if_neg c15x3, if_neg c15x4, if_neg c15x5, if_neg c15x6, if_pos c15x7, if_neg c125, if_neg c132], rfl⟩) dX2_field_140
    by_cases c15x8 : what = nI 8
    · refine lv_tableIn (off := 126) (tgt := 141) hx hb dX2_field_15 (by rw [c15x8]; decide +kernel) (by rw [c15x8]; decide +kernel) (by rw [c15x8]; decide +kernel) (by decide) ?_
      refine lv_aload_n hx hb dX2_field_141 rfl (lv_at hl 1 rfl) ?_
      refine q_gw (w := M 5 i) hC hG cF2 i2 (g_kn hs (by omega)) 9 (by decide) rfl (g_n9 (by omega)) k48 dX2_field_142 ?_
      have b14 : M 5 i < 2147483648 := by have := hB.1 5 i rfl; first | exact this | (simp [up2, m_cp, m_cpk] at this; exact this) | omega
      refine n_iconst hC 2 dX2_field_145 ?_
      refine n_ne (tgt := 159) hC dX2_field_146 (by decide) (by omega) (by omega) (fun c146 => ?_) (fun c146 => ?_)
      · refine n_iconst hC 0 dX2_field_159 ?_
        exact q_iret (v := (nI 0)) hC hG hr hlk (⟨by simp only [m_nd, if_pos c5, if_neg c15x0, if_neg c15x1, if_neg c15x2, if_neg c15x3, if_neg c15x4, if_neg c15x5, if_neg c15x6, if_neg c15x7, if_pos c15x8, if_neg c146], rfl⟩) dX2_field_160
      · refine lv_aload_n hx hb dX2_field_149 rfl (lv_at hl 1 rfl) ?_
        refine q_getr hC hG cF2 i2 (g_kn hs (by omega)) 6 (by decide) rfl (hs.1.2.2.2.2.2.1 i (by omega)).2.1.2.2.2.1 k42 dX2_field_150 ?_
        refine q_callS (rest := []) (k_X2_countLetters l D cA A (Z := cM b n X M P) (a := na b i + 3) (z0 := n) (show kd X (na b i + 3) = 9 ∧ ln X (na b i + 3) = n from ⟨(hs.1.2.2.2.2.2.1 i (by omega)).2.2.2.2.2.2.1, (hs.1.2.2.2.2.2.1 i (by omega)).2.2.2.2.2.2.2.1⟩).1 (show kd X (na b i + 3) = 9 ∧ ln X (na b i + 3) = n from ⟨(hs.1.2.2.2.2.2.1 i (by omega)).2.2.2.2.2.2.1, (hs.1.2.2.2.2.2.1 i (by omega)).2.2.2.2.2.2.2.1⟩).2 (by omega)) hC hG 1 gX2_field_X2_countLetters rfl (by decide +kernel) ⟨by decide, by decide⟩ rfl hl.1 rfl (by simp [Value.category]) dX2_field_153 ⟨Nat.le_of_ble_eq_true rfl, Nat.le_of_ble_eq_true rfl⟩ (fun v Y H locs hq hG => ?_)
        obtain ⟨rfl, rfl⟩ := hq
        rw [show c_cl (rv (cM b n X M P) (na b i + 3)) n = m_cnt M 14 (5 * i) n from (show c_cl (rv X (na b i + 3)) n = _ from c_tales hs (by omega))]
        have q153 := m_cnt_le M 14 (5 * i) n
        refine lv_goto (tgt := 160) hx hb dX2_field_156 (by decide) ?_
        exact q_iret (v := (nI (m_cnt M 14 (5 * i) n))) hC hG hr hlk (⟨by simp only [m_nd, if_pos c5, if_neg c15x0, if_neg c15x1, if_neg c15x2, if_neg c15x3, if_neg c15x4, if_neg c15x5, if_neg c15x6, if_neg c15x7, if_pos c15x8, if_pos c146], rfl⟩) dX2_field_160
    refine lv_tableOut (tgt := 161) hx hb dX2_field_15 (sw_out (hi := 8) (fun v hv => by rcases (show v = 0 ∨ v = 1 ∨ v = 2 ∨ v = 3 ∨ v = 4 ∨ v = 5 ∨ v = 6 ∨ v = 7 ∨ v = 8 by omega) with rfl | rfl | rfl | rfl | rfl | rfl | rfl | rfl | rfl <;> assumption)) (by decide) ?_
    refine lv_bipush (v := -2) hx hb dX2_field_161 (by decide) ?_
    exact q_iret (v := (-2)) hC hG hr hlk (⟨by simp only [m_nd, if_pos c5, if_neg c15x0, if_neg c15x1, if_neg c15x2, if_neg c15x3, if_neg c15x4, if_neg c15x5, if_neg c15x6, if_neg c15x7, if_neg c15x8], rfl⟩) dX2_field_163
