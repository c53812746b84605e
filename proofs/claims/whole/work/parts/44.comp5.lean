def c_ask (M : MM) (i l : Nat) : Nat × MM := if M 5 i = 0 then (1, m_post M i (M 19 l) 7 (M 6 i) (M 23 l)) else (0, M)

abbrev rmX2_hearAsk : Room := { frames := 3, cells := 1, slots := 8, locals := 71 }
set_option maxHeartbeats 4000000 in
set_option maxRecDepth 100000 in
theorem k_X2_hearAsk (l : Launch) (D : va_G) (cA : Nat → ClassId) (A : Nat → Prop) {b n f : Nat} {X : Mem} {M : MM} {P : Nat → Nat} (hs : Sd b n f X M) (hJ : J M) {i : Nat} (hi : i < n) {q l0 : Nat} (hq : Lt b n X M l0 q) (hl0 : l0 < M 17 0) : mt l D cA A yX2_hearAsk wsX2_hearAsk rmX2_hearAsk [.ref (na b i), .ref q] (cM b n X M P) (fun w Y => w = some (.int (nI (c_ask M i l0).1)) ∧ ∃ X1, Y = cM b n X1 (c_ask M i l0).2 P ∧ Sd b n f X1 (c_ask M i l0).2 ∧ go b n X X1) := by
  refine q_start (by decide) rfl (Nat.le_of_ble_eq_true rfl) (fun p e s m args below meth c H locs hC hr hlk hnm hG ls hl => ?_)
  have hl : lv_has ls 2 [(0, .ref (na b i)), (1, .ref q)] := hl
  have hx := hC.1.1
  have hb := hC.1.2.1
  have hts := hC.1.2.2.2.2
  have i2 : ∀ w ∈ wsX20, w ∈ wsX2_hearAsk := by decide +kernel
  have i0 : ∀ w ∈ wsX00, w ∈ wsX2_hearAsk := by decide +kernel
  have hnf := g_nf hs
  have hB := hJ.1
  have hL := hJ.2.1
  have hE := hJ.2.2.1
  have hgo := go_rf b n X
  have hB0 := hJ.1
  have hJ0 := hJ
  have h17 := hB.2
  have k25 := hts (.fieldLink RX2 25 "ViewStamps$Node" "pool" "LViewStamps$Pool;") (by decide +kernel)
  have k48 := hts (.fieldLink RX2 48 "ViewStamps$Node" "status" "I") (by decide +kernel)
  have k169 := hts (.fieldLink RX2 169 "ViewStamps$Letter" "from" "I") (by decide +kernel)
  have k172 := hts (.fieldLink RX2 172 "ViewStamps$Letter" "count" "I") (by decide +kernel)
  refine lv_aload_n hx hb dX2_hearAsk_0 rfl (lv_at hl 0 rfl) ?_
  refine q_gw (w := M 5 i) hC hG cF2 i2 (g_kn hs (by omega)) 9 (by decide) rfl (g_n9 (by omega)) k48 dX2_hearAsk_1 ?_
  have b1 : M 5 i < 2147483648 := by have := hB.1 5 i rfl; first | exact this | (simp [up2, m_cp, m_cpk] at this; exact this) | omega
  refine n_ifeq (tgt := 9) hC dX2_hearAsk_4 (by decide) (by omega) (fun c4 => ?_) (fun c4 => ?_)
  · refine lv_aload_n hx hb dX2_hearAsk_9 rfl (lv_at hl 0 rfl) ?_
    refine q_getr hC hG cF2 i2 (g_kn hs (by omega)) 3 (by decide) rfl (hs.1.2.2.2.2.2.1 i (by omega)).2.1.1 k25 dX2_hearAsk_10 ?_
    refine lv_aload_n hx hb dX2_hearAsk_13 rfl (lv_at hl 0 rfl) ?_
    refine lv_aload_n hx hb dX2_hearAsk_14 rfl (lv_at hl 1 rfl) ?_
    refine q_gw (w := M 19 l0) hC hG cF0 i0 ((hgo.2.1 q (by rw [hq.1.1]; decide)).1.trans hq.1.1) 0 (by decide) rfl ((g_iv hs (Or.inl ((hgo.2.1 q (by rw [hq.1.1]; decide)).1.trans hq.1.1)) 0).trans (((hgo.2.2.2.2.1 q hq.1.1).2 0 (by decide)).trans hq.1.2.1)) k169 dX2_hearAsk_15 ?_
    have bl0 := hB0.1 19 l0 rfl
    refine n_bipush hC 7 (by decide) dX2_hearAsk_18 ?_
    refine lv_aload_n hx hb dX2_hearAsk_20 rfl (lv_at hl 1 rfl) ?_
    refine q_gw (w := M 23 l0) hC hG cF0 i0 ((hgo.2.1 q (by rw [hq.1.1]; decide)).1.trans hq.1.1) 5 (by decide) rfl ((g_iv hs (Or.inl ((hgo.2.1 q (by rw [hq.1.1]; decide)).1.trans hq.1.1)) 5).trans (((hgo.2.2.2.2.1 q hq.1.1).2 5 (by decide)).trans hq.1.2.2.2.2.2.1)) k172 dX2_hearAsk_21 ?_
    have bl5 := hB0.1 23 l0 rfl
    refine q_callV (rest := [.ref (b + 3)]) (k_X2_write l D cA A hs hJ (i := i) (by omega) (M 19 l0) 7 (M 23 l0) (by omega) (by omega) (by omega)) hC hG cF2 (g_kn hs (by omega)) 3 gX2_hearAsk_X2_write rfl (by decide +kernel) ⟨by decide, by decide⟩ rfl hl.1 rfl (by simp [Value.category]) dX2_hearAsk_24 ⟨by decide, by decide⟩ (fun v Y H locs hq hG => ?_)
    obtain ⟨Xw, qw, rfl, rfl, hs, hgw, hw, hwf, hwn⟩ := hq
    refine q_callV (rest := []) (k_X3_add l D cA A hs hJ (by omega) hw hwf) hC hG cF3 hs.1.2.2.1.1 1 gX2_hearAsk_X3_add rfl (by decide +kernel) ⟨by decide, by decide⟩ rfl hl.1 rfl (by simp [Value.category]) dX2_hearAsk_27 ⟨by decide, by decide⟩ (fun v Y H locs hq hG => ?_)
    obtain ⟨rfl, Xa, rfl, hs, hga⟩ := hq
    have hJ := J_post (i := i) (j := M 19 l0) (k := 7) (v := M 6 i) (c := M 23 l0) hJ (by omega) (by omega) (by omega) (by first | omega | exact hJ.1.1 6 _ rfl) (by omega)
    have hB := hJ.1
    have hL := hJ.2.1
    have hE := hJ.2.2.1
    have hgo := go_tr hgo (go_tr hgw hga)
    refine n_iconst hC 1 dX2_hearAsk_30 ?_
    exact q_zret (v := 1) hC hG hr hlk (by first | decide | omega) (⟨by simp only [c_ask, if_pos c4], Xa, by simp only [c_ask, if_pos c4], by simp only [c_ask, if_pos c4]; exact hs, hgo⟩) dX2_hearAsk_31 (h1 := by decide) (h2 := by decide)
  · refine n_iconst hC 0 dX2_hearAsk_7 ?_
    exact q_zret (v := 0) hC hG hr hlk (by first | decide | omega) (⟨by simp only [c_ask, if_neg c4], X, by simp only [c_ask, if_neg c4], by simp only [c_ask, if_neg c4]; exact hs, hgo⟩) dX2_hearAsk_8 (h1 := by decide) (h2 := by decide)

abbrev rmX2_hearLog : Room := { frames := 4, cells := 1, slots := 8, locals := 91 }
set_option maxHeartbeats 4000000 in
set_option maxRecDepth 100000 in
theorem k_X2_hearLog (l : Launch) (D : va_G) (cA : Nat → ClassId) (A : Nat → Prop) {b n f : Nat} {X : Mem} {M : MM} {P : Nat → Nat} (hs : Sd b n f X M) (hJ : J M) {i : Nat} (hi : i < n) {q l0 : Nat} (hq : Lt b n X M l0 q) (hl0 : l0 < M 17 0) (hkd : M 21 l0 = 1 ∨ M 21 l0 = 5) (hst : M 5 i < 2) (hvw : M 6 i ≤ M 22 l0) (hlv : M 5 i = 0 → M 7 i = M 6 i) : mt l D cA A yX2_hearLog wsX2_hearLog rmX2_hearLog [.ref (na b i), .ref q] (cM b n X M P) (fun w Y => w = some (.int (nI (m_pre n M i (55 + l0) (M 22 l0)).1)) ∧ ∃ X1, Y = cM b n X1 (m_pre n M i (55 + l0) (M 22 l0)).2 P ∧ Sd b n f X1 (m_pre n M i (55 + l0) (M 22 l0)).2 ∧ go b n X X1) := by
  refine q_start (by decide) rfl (Nat.le_of_ble_eq_true rfl) (fun p e s m args below meth c H locs hC hr hlk hnm hG ls hl => ?_)
  have hl : lv_has ls 3 [(0, .ref (na b i)), (1, .ref q)] := hl
  have hx := hC.1.1
  have hb := hC.1.2.1
  have hts := hC.1.2.2.2.2
  have i2 : ∀ w ∈ wsX20, w ∈ wsX2_hearLog := by decide +kernel
  have i0 : ∀ w ∈ wsX00, w ∈ wsX2_hearLog := by decide +kernel
  have hnf := g_nf hs
  have hB := hJ.1
  have hL := hJ.2.1
  have hE := hJ.2.2.1
  have hgo := go_rf b n X
  have hB0 := hJ.1
  have hJ0 := hJ
  have h17 := hB.2
  obtain ⟨lg, hlgr, hlgY, -⟩ := hq.2
  obtain ⟨hlg4, hlgA⟩ := hlgY (by rcases hkd with hkd | hkd <;> rw [hkd] <;> decide)
  have hL5 := hL (55 + l0) (by omega)
  have hLi := hL i (by omega)
  have k33 := hts (.fieldLink RX2 33 "ViewStamps$Node" "log" "LViewStamps$Log;") (by decide +kernel)
  have k48 := hts (.fieldLink RX2 48 "ViewStamps$Node" "status" "I") (by decide +kernel)
  have k51 := hts (.fieldLink RX2 51 "ViewStamps$Node" "view" "I") (by decide +kernel)
  have k62 := hts (.fieldLink RX2 62 "ViewStamps$Node" "sure" "I") (by decide +kernel)
  have k138 := hts (.fieldLink RX2 138 "ViewStamps$Letter" "view" "I") (by decide +kernel)
  have k151 := hts (.fieldLink RX2 151 "ViewStamps$Letter" "log" "LViewStamps$Log;") (by decide +kernel)
  have k152 := hts (.fieldLink RX2 152 "ViewStamps$Letter" "sure" "I") (by decide +kernel)
  refine lv_aload_n hx hb dX2_hearLog_0 rfl (lv_at hl 0 rfl) ?_
  refine q_gw (w := M 6 i) hC hG cF2 i2 (g_kn hs (by omega)) 10 (by decide) rfl (g_n10 (by omega)) k51 dX2_hearLog_1 ?_
  have b1 : M 6 i < 2147483648 := by have := hB.1 6 i rfl; first | exact this | (simp [up2, m_cp, m_cpk] at this; exact this) | omega
  refine lv_aload_n hx hb dX2_hearLog_4 rfl (lv_at hl 1 rfl) ?_
  refine q_gw (w := M 22 l0) hC hG cF0 i0 ((hgo.2.1 q (by rw [hq.1.1]; decide)).1.trans hq.1.1) 3 (by decide) rfl ((g_iv hs (Or.inl ((hgo.2.1 q (by rw [hq.1.1]; decide)).1.trans hq.1.1)) 3).trans (((hgo.2.2.2.2.1 q hq.1.1).2 3 (by decide)).trans hq.1.2.2.2.2.1)) k138 dX2_hearLog_5 ?_
  have bl3 := hB0.1 22 l0 rfl
  refine n_lt (tgt := 19) hC dX2_hearLog_8 (by decide) (by omega) (by omega) (fun c8 => ?_) (fun c8 => ?_)
  · have c8n := Nat.not_le.mpr c8
    refine n_iconst hC 1 dX2_hearLog_19 ?_
    refine lv_goto (tgt := 24) hx hb dX2_hearLog_20 (by decide) ?_
    refine lv_istore_n (lv' := [(2, .int (nI 1)), (0, .ref (na b i)), (1, .ref q)]) hx hb dX2_hearLog_24 rfl hl (by decide) rfl (fun ls hl => ?_)
    refine lv_iload_n hx hb dX2_hearLog_25 rfl (lv_at hl 0 rfl) ?_
    refine n_ifne (tgt := 38) hC dX2_hearLog_26 (by decide) (by omega) (fun c26 => ?_) (fun c26 => ?_)
    · refine lv_iload_n hx hb dX2_hearLog_38 rfl (lv_at hl 0 rfl) ?_
      refine n_ifne (tgt := 59) hC dX2_hearLog_39 (by decide) (by omega) (fun c39 => ?_) (fun c39 => ?_)
      · refine lv_aload_n hx hb dX2_hearLog_59 rfl (lv_at hl 1 rfl) ?_
        refine lv_aload_n hx hb dX2_hearLog_60 rfl (lv_at hl 2 rfl) ?_
        refine q_getr hC hG cF0 i0 ((hgo.2.1 q (by rw [hq.1.1]; decide)).1.trans hq.1.1) 6 (by decide) rfl ((hgo.2.2.2.2.1 q hq.1.1).1.trans hlgr) k151 dX2_hearLog_61 ?_
        refine q_putr hC hG cF2 i2 (g_kn hs (by omega)) 12 (by decide) rfl k33 (Or.inl rfl) rfl rfl dX2_hearLog_64 (fun H locs hG => ?_)
        rw [cM_wR] at hG
        obtain ⟨ec, hs, hgl⟩ := c_log (i := i) P hs hJ (by omega) (by omega) (hlgA.go hgo)
        rw [ec] at hG
        have hgo := go_tr hgo hgl
        have hlga : rv (wR X (na b i) 12 (some lg)) (na b i) 12 = some lg := up2_self _ _ _ _
        refine lv_aload_n hx hb dX2_hearLog_67 rfl (lv_at hl 1 rfl) ?_
        refine lv_aload_n hx hb dX2_hearLog_68 rfl (lv_at hl 1 rfl) ?_
        refine q_gw (w := M 4 i) hC hG cF2 i2 (g_kn hs (by omega)) 11 (by decide) rfl ((g_n11 (by omega)).trans (by simp [up2, m_cp, m_cpk])) k62 dX2_hearLog_69 ?_
        have b2 : M 4 i < 2147483648 := by have := hB.1 4 i rfl; first | exact this | (simp [up2, m_cp, m_cpk] at this; exact this) | omega
        refine lv_aload_n hx hb dX2_hearLog_72 rfl (lv_at hl 2 rfl) ?_
        refine q_gw (w := M 4 (55 + l0)) hC hG cF0 i0 ((hgo.2.1 q (by rw [hq.1.1]; decide)).1.trans hq.1.1) 4 (by decide) rfl ((g_iv hs (Or.inl ((hgo.2.1 q (by rw [hq.1.1]; decide)).1.trans hq.1.1)) 4).trans (((hgo.2.2.2.2.1 q hq.1.1).2 4 (by decide)).trans hlg4)) k152 dX2_hearLog_73 ?_
        have bl4 := hB0.1 4 (55 + l0) rfl
        refine n_max hC hl.1 (hts (.methodLink RX2 153 Lib.Math.max.name) (by decide +kernel)) (hts (.static Lib.Math.max.name) (by decide +kernel)) (hts (.initialized "java/lang/Math") (by decide +kernel)) (hts (.code Lib.Math.max.name Lib.Math.max.code 2 (some .int)) (by decide +kernel)) (by decide) (by simp [Value.category]) (by first | exact Nat.zero_le _ | decide) (by first | exact Nat.zero_le _ | decide) (by omega) (by omega) dX2_hearLog_76 ?_
        have q76 : m_gre (M 4 i) (M 4 (55 + l0)) < 2147483648 := m_gre_le (by omega) (by omega)
        refine lv_aload_n hx hb dX2_hearLog_79 rfl (lv_at hl 1 rfl) ?_
        refine q_getr hC hG cF2 i2 (g_kn hs (by omega)) 12 (by decide) rfl hlga k33 dX2_hearLog_80 ?_
        refine q_callV (rest := [.int (nI (m_gre (M 4 i) (M 4 (55 + l0)))), .ref (na b i)]) (k_X1_size l D cA A hs (hlgA.go hgo) hL5.1) hC hG cF1 (hlgA.go hgo).1 0 gX2_hearLog_X1_size rfl (by decide +kernel) ⟨by decide, by decide⟩ rfl hl.1 rfl (by simp [Value.category]) dX2_hearLog_83 ⟨by decide, by decide⟩ (fun v Y H locs hq hG => ?_)
        obtain ⟨rfl, rfl⟩ := hq
        refine n_min hC hl.1 (hts (.methodLink RX2 159 Lib.Math.min.name) (by decide +kernel)) (hts (.static Lib.Math.min.name) (by decide +kernel)) (hts (.initialized "java/lang/Math") (by decide +kernel)) (hts (.code Lib.Math.min.name Lib.Math.min.code 2 (some .int)) (by decide +kernel)) (by decide) (by simp [Value.category]) (by first | exact Nat.zero_le _ | decide) (by first | exact Nat.zero_le _ | decide) (by omega) (by omega) dX2_hearLog_86 ?_
        have q86 := m_les_le (m_gre (M 4 i) (M 4 (55 + l0))) (M 3 (55 + l0))
        refine q_puti hC hG cF2 i2 (g_kn hs (by omega)) 11 (by decide) rfl k62 (Or.inl rfl) rfl (by first | rfl | decide) dX2_hearLog_89 (fun H locs hG => ?_)
        rw [cM_n11 (by omega)] at hG
        have hs := Sd_to hs (dq_up (k := 4) (y := i) (v := m_les (m_gre (M 4 i) (M 4 (55 + l0))) (M 3 (55 + l0))) (by omega))
        have hJ := J_hav (g := 55 + l0) (i := i) (w := M 4 i) (s := m_les (m_gre (M 4 i) (M 4 (55 + l0))) (M 3 (55 + l0))) hJ (by omega) (by omega)
        rw [up2_up2] at hJ hs hG
        have hB := hJ.1
        have hL := hJ.2.1
        have hE := hJ.2.2.1
        refine lv_aload_n hx hb dX2_hearLog_92 rfl (lv_at hl 1 rfl) ?_
        refine lv_aload_n hx hb dX2_hearLog_93 rfl (lv_at hl 2 rfl) ?_
        refine q_gw (w := M 22 l0) hC hG cF0 i0 ((hgo.2.1 q (by rw [hq.1.1]; decide)).1.trans hq.1.1) 3 (by decide) rfl ((g_iv hs (Or.inl ((hgo.2.1 q (by rw [hq.1.1]; decide)).1.trans hq.1.1)) 3).trans (((hgo.2.2.2.2.1 q hq.1.1).2 3 (by decide)).trans hq.1.2.2.2.2.1)) k138 dX2_hearLog_94 ?_
        have bl3 := hB0.1 22 l0 rfl
        refine q_callV (rest := []) (k_X2_settleIn l D cA A hs hJ (i := i) (by omega) (M 22 l0) (by omega)) hC hG cF2 (g_kn hs (by omega)) 1 gX2_hearLog_X2_settleIn rfl (by decide +kernel) ⟨by decide, by decide⟩ rfl hl.1 rfl (by simp [Value.category]) dX2_hearLog_97 ⟨by decide, by decide⟩ (fun v Y H locs hq hG => ?_)
        obtain ⟨rfl, Xsett, rfl, hs, hgsett⟩ := hq
        have hgo := go_tr hgo hgsett
        have hJ := J_up (J_up (J_up hJ 6 i (v := M 22 l0) (by decide) (Or.inl (by omega))) 7 i (v := M 22 l0) (by decide) (Or.inl (by omega))) 5 i (v := 0) (by decide) (Or.inl (by decide))
        have hB := hJ.1
        have hL := hJ.2.1
        have hE := hJ.2.2.1
        refine lv_aload_n hx hb dX2_hearLog_100 rfl (lv_at hl 1 rfl) ?_
        refine q_callV (rest := []) (k_X2_postOk l D cA A hs hJ (i := i) (by omega) ) hC hG cF2 (g_kn hs (by omega)) 0 gX2_hearLog_X2_postOk rfl (by decide +kernel) ⟨by decide, by decide⟩ rfl hl.1 rfl (by simp [Value.category]) dX2_hearLog_101 ⟨by decide, by decide⟩ (fun v Y H locs hq hG => ?_)
        obtain ⟨rfl, Xpost, rfl, hs, hgpost⟩ := hq
        have hgo := go_tr hgo hgpost
        have hJ := J_post (i := i) (j := (up2 (up2 (up2 (up2 (m_cp M (55 + l0) i) 4 i (m_les (m_gre (M 4 i) (M 4 (55 + l0))) (M 3 (55 + l0)))) 6 i (M 22 l0)) 7 i (M 22 l0)) 5 i 0) 6 i % n) (k := 2) (v := (up2 (up2 (up2 (up2 (m_cp M (55 + l0) i) 4 i (m_les (m_gre (M 4 i) (M 4 (55 + l0))) (M 3 (55 + l0)))) 6 i (M 22 l0)) 7 i (M 22 l0)) 5 i 0) 6 i) (c := (up2 (up2 (up2 (up2 (m_cp M (55 + l0) i) 4 i (m_les (m_gre (M 4 i) (M 4 (55 + l0))) (M 3 (55 + l0)))) 6 i (M 22 l0)) 7 i (M 22 l0)) 5 i 0) 3 i) hJ (by omega) (Nat.lt_of_le_of_lt (Nat.mod_le _ _) (hJ.1.1 6 _ rfl)) (by decide) (hJ.1.1 6 _ rfl) (hJ.1.1 3 _ rfl)
        have hB := hJ.1
        have hL := hJ.2.1
        have hE := hJ.2.2.1
        refine n_iconst hC 1 dX2_hearLog_104 ?_
        exact q_zret (v := 1) hC hG hr hlk (by first | decide | omega) (by have eM : m_pre n M i (55 + l0) (M 22 l0) = (1, m_pok n (up2 (up2 (up2 (up2 (m_cp M (55 + l0) i) 4 i (m_les (m_gre (M 4 i) (M 4 (55 + l0))) (M 3 (55 + l0)))) 6 i (M 22 l0)) 7 i (M 22 l0)) 5 i 0) i) := (by simp only [m_pre, if_pos c8, if_neg c8n, if_neg c26, if_neg c39]; rw [m_hav, m_cp_4 _ _ _ (by omega)]); rw [eM]; exact ⟨rfl, Xpost, rfl, hs, hgo⟩) dX2_hearLog_105 (h1 := by decide) (h2 := by decide)
      · exact absurd c39 (by decide)
    · exact absurd c26 (by decide)
  · have c8n := Nat.not_lt.mpr c8
    refine lv_aload_n hx hb dX2_hearLog_11 rfl (lv_at hl 0 rfl) ?_
    refine q_gw (w := M 5 i) hC hG cF2 i2 (g_kn hs (by omega)) 9 (by decide) rfl (g_n9 (by omega)) k48 dX2_hearLog_12 ?_
    have b3 : M 5 i < 2147483648 := by have := hB.1 5 i rfl; first | exact this | (simp [up2, m_cp, m_cpk] at this; exact this) | omega
    refine n_iconst hC 1 dX2_hearLog_15 ?_
    refine n_ne (tgt := 23) hC dX2_hearLog_16 (by decide) (by omega) (by omega) (fun c16 => ?_) (fun c16 => ?_)
    · refine n_iconst hC 0 dX2_hearLog_23 ?_
      refine lv_istore_n (lv' := [(2, .int (nI 0)), (0, .ref (na b i)), (1, .ref q)]) hx hb dX2_hearLog_24 rfl hl (by decide) rfl (fun ls hl => ?_)
      refine lv_iload_n hx hb dX2_hearLog_25 rfl (lv_at hl 0 rfl) ?_
      refine n_ifne (tgt := 38) hC dX2_hearLog_26 (by decide) (by omega) (fun c26 => ?_) (fun c26 => ?_)
      · exact absurd c26 (by decide)
      · refine lv_aload_n hx hb dX2_hearLog_29 rfl (lv_at hl 1 rfl) ?_
        refine q_callV (rest := []) (k_X2_isFirst l D cA A hs hJ (i := i) (by omega)) hC hG cF2 (g_kn hs (by omega)) 0 gX2_hearLog_X2_isFirst rfl (by decide +kernel) ⟨by decide, by decide⟩ rfl hl.1 rfl (by simp [Value.category]) dX2_hearLog_30 ⟨by decide, by decide⟩ (fun v Y H locs hq hG => ?_)
        obtain ⟨rfl, rfl⟩ := hq
        have q30 := m_fst_le n M i
        refine n_ifeq (tgt := 38) hC dX2_hearLog_33 (by decide) (by omega) (fun c33 => ?_) (fun c33 => ?_)
        · refine lv_iload_n hx hb dX2_hearLog_38 rfl (lv_at hl 0 rfl) ?_
          refine n_ifne (tgt := 59) hC dX2_hearLog_39 (by decide) (by omega) (fun c39 => ?_) (fun c39 => ?_)
          · exact absurd c39 (by decide)
          · refine lv_aload_n hx hb dX2_hearLog_42 rfl (lv_at hl 2 rfl) ?_
            refine q_getr hC hG cF0 i0 ((hgo.2.1 q (by rw [hq.1.1]; decide)).1.trans hq.1.1) 6 (by decide) rfl ((hgo.2.2.2.2.1 q hq.1.1).1.trans hlgr) k151 dX2_hearLog_43 ?_
            refine q_callV (rest := []) (k_X1_size l D cA A hs (hlgA.go hgo) hL5.1) hC hG cF1 (hlgA.go hgo).1 0 gX2_hearLog_X1_size rfl (by decide +kernel) ⟨by decide, by decide⟩ rfl hl.1 rfl (by simp [Value.category]) dX2_hearLog_46 ⟨by decide, by decide⟩ (fun v Y H locs hq hG => ?_)
            obtain ⟨rfl, rfl⟩ := hq
            refine lv_aload_n hx hb dX2_hearLog_49 rfl (lv_at hl 1 rfl) ?_
            obtain ⟨lgn4, hlgn4a, hlgn4⟩ := hs.2.2.2.1 i (by omega)
            have hLlgn4 := hL i (by omega)
            refine q_getr hC hG cF2 i2 (g_kn hs (by omega)) 12 (by decide) rfl hlgn4a k33 dX2_hearLog_50 ?_
            refine q_callV (rest := [.int (nI (M 3 (55 + l0)))]) (k_X1_size l D cA A hs hlgn4 hLlgn4.1) hC hG cF1 hlgn4.1 0 gX2_hearLog_X1_size rfl (by decide +kernel) ⟨by decide, by decide⟩ rfl hl.1 rfl (by simp [Value.category]) dX2_hearLog_53 ⟨by decide, by decide⟩ (fun v Y H locs hq hG => ?_)
            obtain ⟨rfl, rfl⟩ := hq
            refine n_le (tgt := 67) hC dX2_hearLog_56 (by decide) (by omega) (by omega) (fun c56 => ?_) (fun c56 => ?_)
            · have c56n := Nat.not_lt.mpr c56
              refine lv_aload_n hx hb dX2_hearLog_67 rfl (lv_at hl 1 rfl) ?_
              refine lv_aload_n hx hb dX2_hearLog_68 rfl (lv_at hl 1 rfl) ?_
              refine q_gw (w := M 4 i) hC hG cF2 i2 (g_kn hs (by omega)) 11 (by decide) rfl (g_n11 (by omega)) k62 dX2_hearLog_69 ?_
              have b5 : M 4 i < 2147483648 := by have := hB.1 4 i rfl; first | exact this | (simp [up2, m_cp, m_cpk] at this; exact this) | omega
              refine lv_aload_n hx hb dX2_hearLog_72 rfl (lv_at hl 2 rfl) ?_
              refine q_gw (w := M 4 (55 + l0)) hC hG cF0 i0 ((hgo.2.1 q (by rw [hq.1.1]; decide)).1.trans hq.1.1) 4 (by decide) rfl ((g_iv hs (Or.inl ((hgo.2.1 q (by rw [hq.1.1]; decide)).1.trans hq.1.1)) 4).trans (((hgo.2.2.2.2.1 q hq.1.1).2 4 (by decide)).trans hlg4)) k152 dX2_hearLog_73 ?_
              have bl4 := hB0.1 4 (55 + l0) rfl
              refine n_max hC hl.1 (hts (.methodLink RX2 153 Lib.Math.max.name) (by decide +kernel)) (hts (.static Lib.Math.max.name) (by decide +kernel)) (hts (.initialized "java/lang/Math") (by decide +kernel)) (hts (.code Lib.Math.max.name Lib.Math.max.code 2 (some .int)) (by decide +kernel)) (by decide) (by simp [Value.category]) (by first | exact Nat.zero_le _ | decide) (by first | exact Nat.zero_le _ | decide) (by omega) (by omega) dX2_hearLog_76 ?_
              have q76 : m_gre (M 4 i) (M 4 (55 + l0)) < 2147483648 := m_gre_le (by omega) (by omega)
              refine lv_aload_n hx hb dX2_hearLog_79 rfl (lv_at hl 1 rfl) ?_
              obtain ⟨lgn6, hlgn6a, hlgn6⟩ := hs.2.2.2.1 i (by omega)
              have hLlgn6 := hL i (by omega)
              refine q_getr hC hG cF2 i2 (g_kn hs (by omega)) 12 (by decide) rfl hlgn6a k33 dX2_hearLog_80 ?_
              refine q_callV (rest := [.int (nI (m_gre (M 4 i) (M 4 (55 + l0)))), .ref (na b i)]) (k_X1_size l D cA A hs hlgn6 hLlgn6.1) hC hG cF1 hlgn6.1 0 gX2_hearLog_X1_size rfl (by decide +kernel) ⟨by decide, by decide⟩ rfl hl.1 rfl (by simp [Value.category]) dX2_hearLog_83 ⟨by decide, by decide⟩ (fun v Y H locs hq hG => ?_)
              obtain ⟨rfl, rfl⟩ := hq
              refine n_min hC hl.1 (hts (.methodLink RX2 159 Lib.Math.min.name) (by decide +kernel)) (hts (.static Lib.Math.min.name) (by decide +kernel)) (hts (.initialized "java/lang/Math") (by decide +kernel)) (hts (.code Lib.Math.min.name Lib.Math.min.code 2 (some .int)) (by decide +kernel)) (by decide) (by simp [Value.category]) (by first | exact Nat.zero_le _ | decide) (by first | exact Nat.zero_le _ | decide) (by omega) (by omega) dX2_hearLog_86 ?_
              have q86 := m_les_le (m_gre (M 4 i) (M 4 (55 + l0))) (M 3 i)
              refine q_puti hC hG cF2 i2 (g_kn hs (by omega)) 11 (by decide) rfl k62 (Or.inl rfl) rfl (by first | rfl | decide) dX2_hearLog_89 (fun H locs hG => ?_)
              rw [cM_n11 (by omega)] at hG
              have hs := Sd_to hs (dq_up (k := 4) (y := i) (v := m_les (m_gre (M 4 i) (M 4 (55 + l0))) (M 3 i)) (by omega))
              have hJ := J_sure hJ i (v := m_les (m_gre (M 4 i) (M 4 (55 + l0))) (M 3 i)) (by first | omega | (simp [up2, m_cp, m_cpk]; omega))
              have hB := hJ.1
              have hL := hJ.2.1
              have hE := hJ.2.2.1
              refine lv_aload_n hx hb dX2_hearLog_92 rfl (lv_at hl 1 rfl) ?_
              refine lv_aload_n hx hb dX2_hearLog_93 rfl (lv_at hl 2 rfl) ?_
              refine q_gw (w := M 22 l0) hC hG cF0 i0 ((hgo.2.1 q (by rw [hq.1.1]; decide)).1.trans hq.1.1) 3 (by decide) rfl ((g_iv hs (Or.inl ((hgo.2.1 q (by rw [hq.1.1]; decide)).1.trans hq.1.1)) 3).trans (((hgo.2.2.2.2.1 q hq.1.1).2 3 (by decide)).trans hq.1.2.2.2.2.1)) k138 dX2_hearLog_94 ?_
              have bl3 := hB0.1 22 l0 rfl
              refine q_callV (rest := []) (k_X2_settleIn l D cA A hs hJ (i := i) (by omega) (M 22 l0) (by omega)) hC hG cF2 (g_kn hs (by omega)) 1 gX2_hearLog_X2_settleIn rfl (by decide +kernel) ⟨by decide, by decide⟩ rfl hl.1 rfl (by simp [Value.category]) dX2_hearLog_97 ⟨by decide, by decide⟩ (fun v Y H locs hq hG => ?_)
              obtain ⟨rfl, Xsett, rfl, hs, hgsett⟩ := hq
              have hgo := go_tr hgo hgsett
              have hJ := J_up (J_up (J_up hJ 6 i (v := M 22 l0) (by decide) (Or.inl (by omega))) 7 i (v := M 22 l0) (by decide) (Or.inl (by omega))) 5 i (v := 0) (by decide) (Or.inl (by decide))
              have hB := hJ.1
              have hL := hJ.2.1
              have hE := hJ.2.2.1
              refine lv_aload_n hx hb dX2_hearLog_100 rfl (lv_at hl 1 rfl) ?_
              refine q_callV (rest := []) (k_X2_postOk l D cA A hs hJ (i := i) (by omega) ) hC hG cF2 (g_kn hs (by omega)) 0 gX2_hearLog_X2_postOk rfl (by decide +kernel) ⟨by decide, by decide⟩ rfl hl.1 rfl (by simp [Value.category]) dX2_hearLog_101 ⟨by decide, by decide⟩ (fun v Y H locs hq hG => ?_)
              obtain ⟨rfl, Xpost, rfl, hs, hgpost⟩ := hq
              have hgo := go_tr hgo hgpost
              have hJ := J_post (i := i) (j := (up2 (up2 (up2 (up2 M 4 i (m_les (m_gre (M 4 i) (M 4 (55 + l0))) (M 3 i))) 6 i (M 22 l0)) 7 i (M 22 l0)) 5 i 0) 6 i % n) (k := 2) (v := (up2 (up2 (up2 (up2 M 4 i (m_les (m_gre (M 4 i) (M 4 (55 + l0))) (M 3 i))) 6 i (M 22 l0)) 7 i (M 22 l0)) 5 i 0) 6 i) (c := (up2 (up2 (up2 (up2 M 4 i (m_les (m_gre (M 4 i) (M 4 (55 + l0))) (M 3 i))) 6 i (M 22 l0)) 7 i (M 22 l0)) 5 i 0) 3 i) hJ (by omega) (Nat.lt_of_le_of_lt (Nat.mod_le _ _) (hJ.1.1 6 _ rfl)) (by decide) (hJ.1.1 6 _ rfl) (hJ.1.1 3 _ rfl)
              have hB := hJ.1
              have hL := hJ.2.1
              have hE := hJ.2.2.1
              refine n_iconst hC 1 dX2_hearLog_104 ?_
              exact q_zret (v := 1) hC hG hr hlk (by first | decide | omega) (by have eM : m_pre n M i (55 + l0) (M 22 l0) = (1, m_pok n (up2 (up2 (up2 (up2 M 4 i (m_les (m_gre (M 4 i) (M 4 (55 + l0))) (M 3 i))) 6 i (M 22 l0)) 7 i (M 22 l0)) 5 i 0) i) := (by have h5 : M 5 i = 0 := (by omega); have h7 := hlv h5; have z6 : (up2 M 4 i (m_les (m_gre (M 4 i) (M 4 (55 + l0))) (M 3 i))) 6 i = M 22 l0 := (by simp [up2, m_cp, m_cpk]; omega); have z7 : (up2 M 4 i (m_les (m_gre (M 4 i) (M 4 (55 + l0))) (M 3 i))) 7 i = M 22 l0 := (by simp [up2, m_cp, m_cpk]; omega); have z5 : (up2 M 4 i (m_les (m_gre (M 4 i) (M 4 (55 + l0))) (M 3 i))) 5 i = 0 := (by simp [up2, m_cp, m_cpk]; omega); rw [up2_id z6, up2_id z7, up2_id z5]; simp only [m_pre, if_pos c8, if_neg c8n, if_neg c16, if_pos c26, if_pos c33, if_pos c39, if_pos c56, if_neg c56n]); rw [eM]; exact ⟨rfl, Xpost, rfl, hs, hgo⟩) dX2_hearLog_105 (h1 := by decide) (h2 := by decide)
            · have c56n := Nat.not_le.mpr c56
              refine lv_aload_n hx hb dX2_hearLog_59 rfl (lv_at hl 1 rfl) ?_
              refine lv_aload_n hx hb dX2_hearLog_60 rfl (lv_at hl 2 rfl) ?_
              refine q_getr hC hG cF0 i0 ((hgo.2.1 q (by rw [hq.1.1]; decide)).1.trans hq.1.1) 6 (by decide) rfl ((hgo.2.2.2.2.1 q hq.1.1).1.trans hlgr) k151 dX2_hearLog_61 ?_
              refine q_putr hC hG cF2 i2 (g_kn hs (by omega)) 12 (by decide) rfl k33 (Or.inl rfl) rfl rfl dX2_hearLog_64 (fun H locs hG => ?_)
              rw [cM_wR] at hG
              obtain ⟨ec, hs, hgl⟩ := c_log (i := i) P hs hJ (by omega) (by omega) (hlgA.go hgo)
              rw [ec] at hG
              have hgo := go_tr hgo hgl
              have hlga : rv (wR X (na b i) 12 (some lg)) (na b i) 12 = some lg := up2_self _ _ _ _
              refine lv_aload_n hx hb dX2_hearLog_67 rfl (lv_at hl 1 rfl) ?_
              refine lv_aload_n hx hb dX2_hearLog_68 rfl (lv_at hl 1 rfl) ?_
              refine q_gw (w := M 4 i) hC hG cF2 i2 (g_kn hs (by omega)) 11 (by decide) rfl ((g_n11 (by omega)).trans (by simp [up2, m_cp, m_cpk])) k62 dX2_hearLog_69 ?_
              have b7 : M 4 i < 2147483648 := by have := hB.1 4 i rfl; first | exact this | (simp [up2, m_cp, m_cpk] at this; exact this) | omega
              refine lv_aload_n hx hb dX2_hearLog_72 rfl (lv_at hl 2 rfl) ?_
              refine q_gw (w := M 4 (55 + l0)) hC hG cF0 i0 ((hgo.2.1 q (by rw [hq.1.1]; decide)).1.trans hq.1.1) 4 (by decide) rfl ((g_iv hs (Or.inl ((hgo.2.1 q (by rw [hq.1.1]; decide)).1.trans hq.1.1)) 4).trans (((hgo.2.2.2.2.1 q hq.1.1).2 4 (by decide)).trans hlg4)) k152 dX2_hearLog_73 ?_
              have bl4 := hB0.1 4 (55 + l0) rfl
              refine n_max hC hl.1 (hts (.methodLink RX2 153 Lib.Math.max.name) (by decide +kernel)) (hts (.static Lib.Math.max.name) (by decide +kernel)) (hts (.initialized "java/lang/Math") (by decide +kernel)) (hts (.code Lib.Math.max.name Lib.Math.max.code 2 (some .int)) (by decide +kernel)) (by decide) (by simp [Value.category]) (by first | exact Nat.zero_le _ | decide) (by first | exact Nat.zero_le _ | decide) (by omega) (by omega) dX2_hearLog_76 ?_
              have q76 : m_gre (M 4 i) (M 4 (55 + l0)) < 2147483648 := m_gre_le (by omega) (by omega)
              refine lv_aload_n hx hb dX2_hearLog_79 rfl (lv_at hl 1 rfl) ?_
              refine q_getr hC hG cF2 i2 (g_kn hs (by omega)) 12 (by decide) rfl hlga k33 dX2_hearLog_80 ?_
              refine q_callV (rest := [.int (nI (m_gre (M 4 i) (M 4 (55 + l0)))), .ref (na b i)]) (k_X1_size l D cA A hs (hlgA.go hgo) hL5.1) hC hG cF1 (hlgA.go hgo).1 0 gX2_hearLog_X1_size rfl (by decide +kernel) ⟨by decide, by decide⟩ rfl hl.1 rfl (by simp [Value.category]) dX2_hearLog_83 ⟨by decide, by decide⟩ (fun v Y H locs hq hG => ?_)
              obtain ⟨rfl, rfl⟩ := hq
              refine n_min hC hl.1 (hts (.methodLink RX2 159 Lib.Math.min.name) (by decide +kernel)) (hts (.static Lib.Math.min.name) (by decide +kernel)) (hts (.initialized "java/lang/Math") (by decide +kernel)) (hts (.code Lib.Math.min.name Lib.Math.min.code 2 (some .int)) (by decide +kernel)) (by decide) (by simp [Value.category]) (by first | exact Nat.zero_le _ | decide) (by first | exact Nat.zero_le _ | decide) (by omega) (by omega) dX2_hearLog_86 ?_
              have q86 := m_les_le (m_gre (M 4 i) (M 4 (55 + l0))) (M 3 (55 + l0))
              refine q_puti hC hG cF2 i2 (g_kn hs (by omega)) 11 (by decide) rfl k62 (Or.inl rfl) rfl (by first | rfl | decide) dX2_hearLog_89 (fun H locs hG => ?_)
              rw [cM_n11 (by omega)] at hG
              have hs := Sd_to hs (dq_up (k := 4) (y := i) (v := m_les (m_gre (M 4 i) (M 4 (55 + l0))) (M 3 (55 + l0))) (by omega))
              have hJ := J_hav (g := 55 + l0) (i := i) (w := M 4 i) (s := m_les (m_gre (M 4 i) (M 4 (55 + l0))) (M 3 (55 + l0))) hJ (by omega) (by omega)
              rw [up2_up2] at hJ hs hG
              have hB := hJ.1
              have hL := hJ.2.1
              have hE := hJ.2.2.1
              refine lv_aload_n hx hb dX2_hearLog_92 rfl (lv_at hl 1 rfl) ?_
              refine lv_aload_n hx hb dX2_hearLog_93 rfl (lv_at hl 2 rfl) ?_
              refine q_gw (w := M 22 l0) hC hG cF0 i0 ((hgo.2.1 q (by rw [hq.1.1]; decide)).1.trans hq.1.1) 3 (by decide) rfl ((g_iv hs (Or.inl ((hgo.2.1 q (by rw [hq.1.1]; decide)).1.trans hq.1.1)) 3).trans (((hgo.2.2.2.2.1 q hq.1.1).2 3 (by decide)).trans hq.1.2.2.2.2.1)) k138 dX2_hearLog_94 ?_
              have bl3 := hB0.1 22 l0 rfl
              refine q_callV (rest := []) (k_X2_settleIn l D cA A hs hJ (i := i) (by omega) (M 22 l0) (by omega)) hC hG cF2 (g_kn hs (by omega)) 1 gX2_hearLog_X2_settleIn rfl (by decide +kernel) ⟨by decide, by decide⟩ rfl hl.1 rfl (by simp [Value.category]) dX2_hearLog_97 ⟨by decide, by decide⟩ (fun v Y H locs hq hG => ?_)
              obtain ⟨rfl, Xsett, rfl, hs, hgsett⟩ := hq
              have hgo := go_tr hgo hgsett
              have hJ := J_up (J_up (J_up hJ 6 i (v := M 22 l0) (by decide) (Or.inl (by omega))) 7 i (v := M 22 l0) (by decide) (Or.inl (by omega))) 5 i (v := 0) (by decide) (Or.inl (by decide))
              have hB := hJ.1
              have hL := hJ.2.1
              have hE := hJ.2.2.1
              refine lv_aload_n hx hb dX2_hearLog_100 rfl (lv_at hl 1 rfl) ?_
              refine q_callV (rest := []) (k_X2_postOk l D cA A hs hJ (i := i) (by omega) ) hC hG cF2 (g_kn hs (by omega)) 0 gX2_hearLog_X2_postOk rfl (by decide +kernel) ⟨by decide, by decide⟩ rfl hl.1 rfl (by simp [Value.category]) dX2_hearLog_101 ⟨by decide, by decide⟩ (fun v Y H locs hq hG => ?_)
              obtain ⟨rfl, Xpost, rfl, hs, hgpost⟩ := hq
              have hgo := go_tr hgo hgpost
              have hJ := J_post (i := i) (j := (up2 (up2 (up2 (up2 (m_cp M (55 + l0) i) 4 i (m_les (m_gre (M 4 i) (M 4 (55 + l0))) (M 3 (55 + l0)))) 6 i (M 22 l0)) 7 i (M 22 l0)) 5 i 0) 6 i % n) (k := 2) (v := (up2 (up2 (up2 (up2 (m_cp M (55 + l0) i) 4 i (m_les (m_gre (M 4 i) (M 4 (55 + l0))) (M 3 (55 + l0)))) 6 i (M 22 l0)) 7 i (M 22 l0)) 5 i 0) 6 i) (c := (up2 (up2 (up2 (up2 (m_cp M (55 + l0) i) 4 i (m_les (m_gre (M 4 i) (M 4 (55 + l0))) (M 3 (55 + l0)))) 6 i (M 22 l0)) 7 i (M 22 l0)) 5 i 0) 3 i) hJ (by omega) (Nat.lt_of_le_of_lt (Nat.mod_le _ _) (hJ.1.1 6 _ rfl)) (by decide) (hJ.1.1 6 _ rfl) (hJ.1.1 3 _ rfl)
              have hB := hJ.1
              have hL := hJ.2.1
              have hE := hJ.2.2.1
              refine n_iconst hC 1 dX2_hearLog_104 ?_
              exact q_zret (v := 1) hC hG hr hlk (by first | decide | omega) (by have eM : m_pre n M i (55 + l0) (M 22 l0) = (1, m_pok n (up2 (up2 (up2 (up2 (m_cp M (55 + l0) i) 4 i (m_les (m_gre (M 4 i) (M 4 (55 + l0))) (M 3 (55 + l0)))) 6 i (M 22 l0)) 7 i (M 22 l0)) 5 i 0) i) := (by have h5 : M 5 i = 0 := (by omega); have h7 := hlv h5; have z6 : (up2 (m_cp M (55 + l0) i) 4 i (m_les (m_gre (M 4 i) (M 4 (55 + l0))) (M 3 (55 + l0)))) 6 i = M 22 l0 := (by simp [up2, m_cp, m_cpk]; omega); have z7 : (up2 (m_cp M (55 + l0) i) 4 i (m_les (m_gre (M 4 i) (M 4 (55 + l0))) (M 3 (55 + l0)))) 7 i = M 22 l0 := (by simp [up2, m_cp, m_cpk]; omega); have z5 : (up2 (m_cp M (55 + l0) i) 4 i (m_les (m_gre (M 4 i) (M 4 (55 + l0))) (M 3 (55 + l0)))) 5 i = 0 := (by simp [up2, m_cp, m_cpk]; omega); rw [up2_id z6, up2_id z7, up2_id z5]; simp only [m_pre, if_pos c8, if_neg c8n, if_neg c16, if_pos c26, if_pos c33, if_pos c39, if_pos c56, if_neg c56n]); rw [eM]; exact ⟨rfl, Xpost, rfl, hs, hgo⟩) dX2_hearLog_105 (h1 := by decide) (h2 := by decide)
        · refine n_iconst hC 0 dX2_hearLog_36 ?_
          exact q_zret (v := 0) hC hG hr hlk (by first | decide | omega) (⟨by simp only [m_pre, if_pos c8, if_neg c8n, if_neg c16, if_pos c26, if_neg c33, if_neg (show ¬ m_fst n M i = 0 from c33)], X, by simp only [m_pre, if_pos c8, if_neg c8n, if_neg c16, if_pos c26, if_neg c33, if_neg (show ¬ m_fst n M i = 0 from c33)], by simp only [m_pre, if_pos c8, if_neg c8n, if_neg c16, if_pos c26, if_neg c33, if_neg (show ¬ m_fst n M i = 0 from c33)]; exact hs, hgo⟩) dX2_hearLog_37 (h1 := by decide) (h2 := by decide)
    · refine n_iconst hC 1 dX2_hearLog_19 ?_
      refine lv_goto (tgt := 24) hx hb dX2_hearLog_20 (by decide) ?_
      refine lv_istore_n (lv' := [(2, .int (nI 1)), (0, .ref (na b i)), (1, .ref q)]) hx hb dX2_hearLog_24 rfl hl (by decide) rfl (fun ls hl => ?_)
      refine lv_iload_n hx hb dX2_hearLog_25 rfl (lv_at hl 0 rfl) ?_
      refine n_ifne (tgt := 38) hC dX2_hearLog_26 (by decide) (by omega) (fun c26 => ?_) (fun c26 => ?_)
      · refine lv_iload_n hx hb dX2_hearLog_38 rfl (lv_at hl 0 rfl) ?_
        refine n_ifne (tgt := 59) hC dX2_hearLog_39 (by decide) (by omega) (fun c39 => ?_) (fun c39 => ?_)
        · refine lv_aload_n hx hb dX2_hearLog_59 rfl (lv_at hl 1 rfl) ?_
          refine lv_aload_n hx hb dX2_hearLog_60 rfl (lv_at hl 2 rfl) ?_
          refine q_getr hC hG cF0 i0 ((hgo.2.1 q (by rw [hq.1.1]; decide)).1.trans hq.1.1) 6 (by decide) rfl ((hgo.2.2.2.2.1 q hq.1.1).1.trans hlgr) k151 dX2_hearLog_61 ?_
          refine q_putr hC hG cF2 i2 (g_kn hs (by omega)) 12 (by decide) rfl k33 (Or.inl rfl) rfl rfl dX2_hearLog_64 (fun H locs hG => ?_)
          rw [cM_wR] at hG
          obtain ⟨ec, hs, hgl⟩ := c_log (i := i) P hs hJ (by omega) (by omega) (hlgA.go hgo)
          rw [ec] at hG
          have hgo := go_tr hgo hgl
          have hlga : rv (wR X (na b i) 12 (some lg)) (na b i) 12 = some lg := up2_self _ _ _ _
          refine lv_aload_n hx hb dX2_hearLog_67 rfl (lv_at hl 1 rfl) ?_
          refine lv_aload_n hx hb dX2_hearLog_68 rfl (lv_at hl 1 rfl) ?_
          refine q_gw (w := M 4 i) hC hG cF2 i2 (g_kn hs (by omega)) 11 (by decide) rfl ((g_n11 (by omega)).trans (by simp [up2, m_cp, m_cpk])) k62 dX2_hearLog_69 ?_
          have b8 : M 4 i < 2147483648 := by have := hB.1 4 i rfl; first | exact this | (simp [up2, m_cp, m_cpk] at this; exact this) | omega
          refine lv_aload_n hx hb dX2_hearLog_72 rfl (lv_at hl 2 rfl) ?_
          refine q_gw (w := M 4 (55 + l0)) hC hG cF0 i0 ((hgo.2.1 q (by rw [hq.1.1]; decide)).1.trans hq.1.1) 4 (by decide) rfl ((g_iv hs (Or.inl ((hgo.2.1 q (by rw [hq.1.1]; decide)).1.trans hq.1.1)) 4).trans (((hgo.2.2.2.2.1 q hq.1.1).2 4 (by decide)).trans hlg4)) k152 dX2_hearLog_73 ?_
          have bl4 := hB0.1 4 (55 + l0) rfl
          refine n_max hC hl.1 (hts (.methodLink RX2 153 Lib.Math.max.name) (by decide +kernel)) (hts (.static Lib.Math.max.name) (by decide +kernel)) (hts (.initialized "java/lang/Math") (by decide +kernel)) (hts (.code Lib.Math.max.name Lib.Math.max.code 2 (some .int)) (by decide +kernel)) (by decide) (by simp [Value.category]) (by first | exact Nat.zero_le _ | decide) (by first | exact Nat.zero_le _ | decide) (by omega) (by omega) dX2_hearLog_76 ?_
          have q76 : m_gre (M 4 i) (M 4 (55 + l0)) < 2147483648 := m_gre_le (by omega) (by omega)
          refine lv_aload_n hx hb dX2_hearLog_79 rfl (lv_at hl 1 rfl) ?_
          refine q_getr hC hG cF2 i2 (g_kn hs (by omega)) 12 (by decide) rfl hlga k33 dX2_hearLog_80 ?_
          refine q_callV (rest := [.int (nI (m_gre (M 4 i) (M 4 (55 + l0)))), .ref (na b i)]) (k_X1_size l D cA A hs (hlgA.go hgo) hL5.1) hC hG cF1 (hlgA.go hgo).1 0 gX2_hearLog_X1_size rfl (by decide +kernel) ⟨by decide, by decide⟩ rfl hl.1 rfl (by simp [Value.category]) dX2_hearLog_83 ⟨by decide, by decide⟩ (fun v Y H locs hq hG => ?_)
          obtain ⟨rfl, rfl⟩ := hq
          refine n_min hC hl.1 (hts (.methodLink RX2 159 Lib.Math.min.name) (by decide +kernel)) (hts (.static Lib.Math.min.name) (by decide +kernel)) (hts (.initialized "java/lang/Math") (by decide +kernel)) (hts (.code Lib.Math.min.name Lib.Math.min.code 2 (some .int)) (by decide +kernel)) (by decide) (by simp [Value.category]) (by first | exact Nat.zero_le _ | decide) (by first | exact Nat.zero_le _ | decide) (by omega) (by omega) dX2_hearLog_86 ?_
          have q86 := m_les_le (m_gre (M 4 i) (M 4 (55 + l0))) (M 3 (55 + l0))
          refine q_puti hC hG cF2 i2 (g_kn hs (by omega)) 11 (by decide) rfl k62 (Or.inl rfl) rfl (by first | rfl | decide) dX2_hearLog_89 (fun H locs hG => ?_)
          rw [cM_n11 (by omega)] at hG
          have hs := Sd_to hs (dq_up (k := 4) (y := i) (v := m_les (m_gre (M 4 i) (M 4 (55 + l0))) (M 3 (55 + l0))) (by omega))
          have hJ := J_hav (g := 55 + l0) (i := i) (w := M 4 i) (s := m_les (m_gre (M 4 i) (M 4 (55 + l0))) (M 3 (55 + l0))) hJ (by omega) (by omega)
          rw [up2_up2] at hJ hs hG
          have hB := hJ.1
          have hL := hJ.2.1
          have hE := hJ.2.2.1
          refine lv_aload_n hx hb dX2_hearLog_92 rfl (lv_at hl 1 rfl) ?_
          refine lv_aload_n hx hb dX2_hearLog_93 rfl (lv_at hl 2 rfl) ?_
          refine q_gw (w := M 22 l0) hC hG cF0 i0 ((hgo.2.1 q (by rw [hq.1.1]; decide)).1.trans hq.1.1) 3 (by decide) rfl ((g_iv hs (Or.inl ((hgo.2.1 q (by rw [hq.1.1]; decide)).1.trans hq.1.1)) 3).trans (((hgo.2.2.2.2.1 q hq.1.1).2 3 (by decide)).trans hq.1.2.2.2.2.1)) k138 dX2_hearLog_94 ?_
          have bl3 := hB0.1 22 l0 rfl
          refine q_callV (rest := []) (k_X2_settleIn l D cA A hs hJ (i := i) (by omega) (M 22 l0) (by omega)) hC hG cF2 (g_kn hs (by omega)) 1 gX2_hearLog_X2_settleIn rfl (by decide +kernel) ⟨by decide, by decide⟩ rfl hl.1 rfl (by simp [Value.category]) dX2_hearLog_97 ⟨by decide, by decide⟩ (fun v Y H locs hq hG => ?_)
          obtain ⟨rfl, Xsett, rfl, hs, hgsett⟩ := hq
          have hgo := go_tr hgo hgsett
          have hJ := J_up (J_up (J_up hJ 6 i (v := M 22 l0) (by decide) (Or.inl (by omega))) 7 i (v := M 22 l0) (by decide) (Or.inl (by omega))) 5 i (v := 0) (by decide) (Or.inl (by decide))
          have hB := hJ.1
          have hL := hJ.2.1
          have hE := hJ.2.2.1
          refine lv_aload_n hx hb dX2_hearLog_100 rfl (lv_at hl 1 rfl) ?_
          refine q_callV (rest := []) (k_X2_postOk l D cA A hs hJ (i := i) (by omega) ) hC hG cF2 (g_kn hs (by omega)) 0 gX2_hearLog_X2_postOk rfl (by decide +kernel) ⟨by decide, by decide⟩ rfl hl.1 rfl (by simp [Value.category]) dX2_hearLog_101 ⟨by decide, by decide⟩ (fun v Y H locs hq hG => ?_)
          obtain ⟨rfl, Xpost, rfl, hs, hgpost⟩ := hq
          have hgo := go_tr hgo hgpost
          have hJ := J_post (i := i) (j := (up2 (up2 (up2 (up2 (m_cp M (55 + l0) i) 4 i (m_les (m_gre (M 4 i) (M 4 (55 + l0))) (M 3 (55 + l0)))) 6 i (M 22 l0)) 7 i (M 22 l0)) 5 i 0) 6 i % n) (k := 2) (v := (up2 (up2 (up2 (up2 (m_cp M (55 + l0) i) 4 i (m_les (m_gre (M 4 i) (M 4 (55 + l0))) (M 3 (55 + l0)))) 6 i (M 22 l0)) 7 i (M 22 l0)) 5 i 0) 6 i) (c := (up2 (up2 (up2 (up2 (m_cp M (55 + l0) i) 4 i (m_les (m_gre (M 4 i) (M 4 (55 + l0))) (M 3 (55 + l0)))) 6 i (M 22 l0)) 7 i (M 22 l0)) 5 i 0) 3 i) hJ (by omega) (Nat.lt_of_le_of_lt (Nat.mod_le _ _) (hJ.1.1 6 _ rfl)) (by decide) (hJ.1.1 6 _ rfl) (hJ.1.1 3 _ rfl)
          have hB := hJ.1
          have hL := hJ.2.1
          have hE := hJ.2.2.1
          refine n_iconst hC 1 dX2_hearLog_104 ?_
          exact q_zret (v := 1) hC hG hr hlk (by first | decide | omega) (by have eM : m_pre n M i (55 + l0) (M 22 l0) = (1, m_pok n (up2 (up2 (up2 (up2 (m_cp M (55 + l0) i) 4 i (m_les (m_gre (M 4 i) (M 4 (55 + l0))) (M 3 (55 + l0)))) 6 i (M 22 l0)) 7 i (M 22 l0)) 5 i 0) i) := (by simp only [m_pre, if_pos c8, if_neg c8n, if_pos c16, if_neg c26, if_neg c39]; rw [m_hav, m_cp_4 _ _ _ (by omega)]); rw [eM]; exact ⟨rfl, Xpost, rfl, hs, hgo⟩) dX2_hearLog_105 (h1 := by decide) (h2 := by decide)
        · exact absurd c39 (by decide)
      · exact absurd c26 (by decide)
