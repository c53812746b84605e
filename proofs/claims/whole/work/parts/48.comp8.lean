abbrev rmX2_hearChange : Room := { frames := 5, cells := 11, slots := 88, locals := 120 }
set_option maxHeartbeats 4000000 in
set_option maxRecDepth 100000 in
theorem k_X2_hearChange (l : Launch) (D : va_G) (cA : Nat → ClassId) (A : Nat → Prop) {b n f : Nat} {X : Mem} {M : MM} {P : Nat → Nat} (hs : Sd b n f X M) (hJ : J M) {i : Nat} (hi : i < n) {q l0 : Nat} (hq : Lt b n X M l0 q) (hl0 : l0 < M 17 0) (h19 : M 19 l0 < n) (hvw : M 6 i ≤ M 22 l0) (hI1 : M 5 i = 1 → f ≤ m_cnt M 11 (5 * i) n → M 8 i ≠ 0) (hI2 : M 5 i = 1 → M 12 (5 * i + i) ≠ 0 → M 8 i ≠ 0) (hI3 : M 11 (5 * i + M 19 l0) ≤ 1) : mt l D cA A yX2_hearChange wsX2_hearChange rmX2_hearChange [.ref (na b i), .ref q] (cM b n X M P) (fun w Y => w = some (.int (nI (m_ask n f M i (M 19 l0) (M 22 l0)).1)) ∧ ∃ X1, Y = cM b n X1 (m_ask n f M i (M 19 l0) (M 22 l0)).2 P ∧ Sd b n f X1 (m_ask n f M i (M 19 l0) (M 22 l0)).2 ∧ go b n X X1) := by
  refine q_start (by decide) rfl (Nat.le_of_ble_eq_true rfl) (fun p e s m args below meth c H locs hC hr hlk hnm hG ls hl => ?_)
  have hl : lv_has ls 3 [(0, .ref (na b i)), (1, .ref q)] := hl
  have hx := hC.1.1
  have hb := hC.1.2.1
  have hts := hC.1.2.2.2.2
  have i2 : ∀ w ∈ wsX20, w ∈ wsX2_hearChange := by decide +kernel
  have i0 : ∀ w ∈ wsX00, w ∈ wsX2_hearChange := by decide +kernel
  have hnf := g_nf hs
  have hB := hJ.1
  have hL := hJ.2.1
  have hE := hJ.2.2.1
  have hgo := go_rf b n X
  have hB0 := hJ.1
  have hJ0 := hJ
  have h17 := hB.2
  have k22 := hts (.fieldLink RX2 22 "ViewStamps$Node" "enough" "I") (by decide +kernel)
  have k48 := hts (.fieldLink RX2 48 "ViewStamps$Node" "status" "I") (by decide +kernel)
  have k51 := hts (.fieldLink RX2 51 "ViewStamps$Node" "view" "I") (by decide +kernel)
  have k65 := hts (.fieldLink RX2 65 "ViewStamps$Node" "voters" "I") (by decide +kernel)
  have k78 := hts (.fieldLink RX2 78 "ViewStamps$Node" "voted" "Z") (by decide +kernel)
  have k138 := hts (.fieldLink RX2 138 "ViewStamps$Letter" "view" "I") (by decide +kernel)
  have k169 := hts (.fieldLink RX2 169 "ViewStamps$Letter" "from" "I") (by decide +kernel)
  refine lv_aload_n hx hb dX2_hearChange_0 rfl (lv_at hl 0 rfl) ?_
  refine q_gw (w := M 6 i) hC hG cF2 i2 (g_kn hs (by omega)) 10 (by decide) rfl (g_n10 (by omega)) k51 dX2_hearChange_1 ?_
  have b1 : M 6 i < 2147483648 := by have := hB.1 6 i rfl; first | exact this | (simp [up2, m_cp, m_cpk] at this; exact this) | omega
  refine lv_aload_n hx hb dX2_hearChange_4 rfl (lv_at hl 1 rfl) ?_
  refine q_gw (w := M 22 l0) hC hG cF0 i0 ((hgo.2.1 q (by rw [hq.1.1]; decide)).1.trans hq.1.1) 3 (by decide) rfl ((g_iv hs (Or.inl ((hgo.2.1 q (by rw [hq.1.1]; decide)).1.trans hq.1.1)) 3).trans (((hgo.2.2.2.2.1 q hq.1.1).2 3 (by decide)).trans hq.1.2.2.2.2.1)) k138 dX2_hearChange_5 ?_
  have bl3 := hB0.1 22 l0 rfl
  refine n_ge (tgt := 19) hC dX2_hearChange_8 (by decide) (by omega) (by omega) (fun c8 => ?_) (fun c8 => ?_)
  · have c8n := Nat.not_lt.mpr c8
    refine n_iconst hC 1 dX2_hearChange_19 ?_
    refine lv_aload_n hx hb dX2_hearChange_20 rfl (lv_at hl 1 rfl) ?_
    refine q_gw (w := M 19 l0) hC hG cF0 i0 ((hgo.2.1 q (by rw [hq.1.1]; decide)).1.trans hq.1.1) 0 (by decide) rfl ((g_iv hs (Or.inl ((hgo.2.1 q (by rw [hq.1.1]; decide)).1.trans hq.1.1)) 0).trans (((hgo.2.2.2.2.1 q hq.1.1).2 0 (by decide)).trans hq.1.2.1)) k169 dX2_hearChange_21 ?_
    have bl0 := hB0.1 19 l0 rfl
    refine lv_ishl hx hb dX2_hearChange_24 ?_
    refine lv_istore_n (lv' := [(2, .int ((nI 1) <<< ((nI (M 19 l0)) &&& 31))), (0, .ref (na b i)), (1, .ref q)]) hx hb dX2_hearChange_25 rfl hl (by decide) rfl (fun ls hl => ?_)
    refine lv_aload_n hx hb dX2_hearChange_26 rfl (lv_at hl 1 rfl) ?_
    refine q_gw (w := M 5 i) hC hG cF2 i2 (g_kn hs (by omega)) 9 (by decide) rfl (g_n9 (by omega)) k48 dX2_hearChange_27 ?_
    have b2 : M 5 i < 2147483648 := by have := hB.1 5 i rfl; first | exact this | (simp [up2, m_cp, m_cpk] at this; exact this) | omega
    refine n_iconst hC 1 dX2_hearChange_30 ?_
    refine n_ne (tgt := 43) hC dX2_hearChange_31 (by decide) (by omega) (by omega) (fun c31 => ?_) (fun c31 => ?_)
    · refine n_iconst hC 0 dX2_hearChange_43 ?_
      exact q_zret (v := 0) hC hG hr hlk (by first | decide | omega) (by have e : m_ask n f M i (M 19 l0) (M 22 l0) = (0, M) := (by rw [m_ask, if_pos (by omega)]; exact ask2_not c31); rw [e]; exact ⟨rfl, X, rfl, hs, hgo⟩) dX2_hearChange_44 (h1 := by decide) (h2 := by decide)
    · refine lv_aload_n hx hb dX2_hearChange_34 rfl (lv_at hl 1 rfl) ?_
      refine q_gw (w := vm M (5 * i) n) hC hG cF2 i2 (g_kn hs (by omega)) 15 (by decide) rfl (g_n15 (by omega)) k65 dX2_hearChange_35 ?_
      refine lv_iload_n hx hb dX2_hearChange_38 rfl (lv_at hl 0 rfl) ?_
      refine lv_iand hx hb dX2_hearChange_39 ?_
      refine lv_if_eq (tgt := 45) hx hb dX2_hearChange_40 (by decide) (fun c40 => ?_) (fun c40 => ?_)
      · have c40y := (vm_and M (5 * i) h19 hnf).mp c40
        refine lv_aload_n hx hb dX2_hearChange_45 rfl (lv_at hl 1 rfl) ?_
        refine lv_dup hx hb dX2_hearChange_46 rfl ?_
        refine q_gw (w := vm M (5 * i) n) hC hG cF2 i2 (g_kn hs (by omega)) 15 (by decide) rfl (g_n15 (by omega)) k65 dX2_hearChange_47 ?_
        refine lv_iload_n hx hb dX2_hearChange_50 rfl (lv_at hl 0 rfl) ?_
        refine lv_ior hx hb dX2_hearChange_51 ?_
        rw [vm_or M (5 * i) h19 hnf]
        refine q_puti hC hG cF2 i2 (g_kn hs (by omega)) 15 (by decide) rfl k65 (Or.inl rfl) rfl rfl dX2_hearChange_52 (fun H locs hG => ?_)
        rw [cM_n15 (by omega) (by omega) _ _ (up2 M 11 (5 * i + M 19 l0) 1) _ (fun x y h => by have := up2_dif h; omega)] at hG
        have hs := Sd_to hs (dq_up (k := 11) (y := 5 * i + M 19 l0) (v := 1) (by omega))
        have hJ := J_up hJ 11 (5 * i + M 19 l0) (v := 1) (by decide) (Or.inl (by decide))
        have hB := hJ.1
        have hL := hJ.2.1
        have hE := hJ.2.2.1
        refine lv_aload_n hx hb dX2_hearChange_55 rfl (lv_at hl 1 rfl) ?_
        refine q_gw (w := M 8 i) hC hG cF2 i2 (g_kn hs (by omega)) 16 (by decide) rfl ((g_n16 (by omega)).trans (by simp [up2, m_cp, m_cpk])) k78 dX2_hearChange_56 ?_
        have b3 : M 8 i < 2147483648 := by have := hB.1 8 i rfl; first | exact this | (simp [up2, m_cp, m_cpk] at this; exact this) | omega
        refine n_ifne (tgt := 84) hC dX2_hearChange_59 (by decide) (by omega) (fun c59 => ?_) (fun c59 => ?_)
        · refine n_iconst hC 1 dX2_hearChange_84 ?_
          exact q_zret (v := 1) hC hG hr hlk (by first | decide | omega) (by have e : m_ask n f M i (M 19 l0) (M 22 l0) = (1, up2 M 11 (5 * i + M 19 l0) 1) := (by rw [m_ask, if_pos (by omega)]; exact ask2_few c31 c40y (Or.inl c59)); rw [e]; exact ⟨rfl, X, rfl, hs, hgo⟩) dX2_hearChange_85 (h1 := by decide) (h2 := by decide)
        · refine lv_aload_n hx hb dX2_hearChange_62 rfl (lv_at hl 1 rfl) ?_
          refine q_gw (w := vm (up2 M 11 (5 * i + M 19 l0) 1) (5 * i) n) hC hG cF2 i2 (g_kn hs (by omega)) 15 (by decide) rfl (g_n15 (by omega)) k65 dX2_hearChange_63 ?_
          refine q_callS (rest := []) (k_J6_bitCount_0f7a4 l D cA A (nI (vm (up2 M 11 (5 * i + M 19 l0) 1) (5 * i) n))) hC hG 1 gX2_hearChange_J6_bitCount_0f7a4 rfl (by decide +kernel) ⟨by decide, by decide⟩ rfl hl.1 rfl (by simp [Value.category]) dX2_hearChange_66 ⟨by decide, by decide⟩ (fun v Y H locs hq hG => ?_)
          obtain ⟨rfl, rfl⟩ := hq
          rw [vm_bc (up2 M 11 (5 * i + M 19 l0) 1) _ hnf]
          have q66 := m_cnt_le (up2 M 11 (5 * i + M 19 l0) 1) 11 (5 * i) n
          refine lv_aload_n hx hb dX2_hearChange_69 rfl (lv_at hl 1 rfl) ?_
          refine q_gw (w := f) hC hG cF2 i2 (g_kn hs (by omega)) 2 (by decide) rfl (g_n2 hs (by omega)) k22 dX2_hearChange_70 ?_
          refine n_lt (tgt := 84) hC dX2_hearChange_73 (by decide) (by omega) (by omega) (fun c73 => ?_) (fun c73 => ?_)
          · have c73n := Nat.not_le.mpr c73
            refine n_iconst hC 1 dX2_hearChange_84 ?_
            exact q_zret (v := 1) hC hG hr hlk (by first | decide | omega) (by have e : m_ask n f M i (M 19 l0) (M 22 l0) = (1, up2 M 11 (5 * i + M 19 l0) 1) := (by rw [m_ask, if_pos (by omega)]; exact ask2_few c31 c40y (Or.inr (by omega))); rw [e]; exact ⟨rfl, X, rfl, hs, hgo⟩) dX2_hearChange_85 (h1 := by decide) (h2 := by decide)
          · have c73n := Nat.not_lt.mpr c73
            refine lv_aload_n hx hb dX2_hearChange_76 rfl (lv_at hl 1 rfl) ?_
            refine q_callV (rest := []) (k_X2_castVote l D cA A hs hJ (i := i) (by omega) ) hC hG cF2 (g_kn hs (by omega)) 0 gX2_hearChange_X2_castVote rfl (by decide +kernel) ⟨by decide, by decide⟩ rfl hl.1 rfl (by simp [Value.category]) dX2_hearChange_77 ⟨by decide, by decide⟩ (fun v Y H locs hq hG => ?_)
            obtain ⟨rfl, Xcast, rfl, hs, hgcast⟩ := hq
            have hgo := go_tr hgo hgcast
            have hJ := J_cast (n := n) hJ (i := i) (by omega) (by omega)
            have hB := hJ.1
            have hL := hJ.2.1
            have hE := hJ.2.2.1
            refine lv_aload_n hx hb dX2_hearChange_80 rfl (lv_at hl 1 rfl) ?_
            refine q_callV (rest := []) (k_X2_leadIfElected l D cA A hs hJ (i := i) (by omega)) hC hG cF2 (g_kn hs (by omega)) 0 gX2_hearChange_X2_leadIfElected rfl (by decide +kernel) ⟨by decide, by decide⟩ rfl hl.1 rfl (by simp [Value.category]) dX2_hearChange_81 ⟨by decide, by decide⟩ (fun v Y H locs hq0 hG => ?_)
            obtain ⟨rfl, Xl, rfl, hs, hgl⟩ := hq0
            have hgo := go_tr hgo hgl
            refine n_iconst hC 1 dX2_hearChange_84 ?_
            exact q_zret (v := 1) hC hG hr hlk (by first | decide | omega) (by have e : m_ask n f M i (M 19 l0) (M 22 l0) = (1, (m_tv2 n f (c_cast n (up2 M 11 (5 * i + M 19 l0) 1) i) i).2) := (by rw [m_ask, if_pos (by omega)]; exact ask2_cast c31 c40y c59 (Classical.byContradiction fun z => hI2 c31 z c59) (by omega)); rw [e]; exact ⟨rfl, Xl, rfl, hs, hgo⟩) dX2_hearChange_85 (h1 := by decide) (h2 := by decide)
      · have c40y := fun z => c40 ((vm_and M (5 * i) h19 hnf).mpr z)
        refine n_iconst hC 0 dX2_hearChange_43 ?_
        exact q_zret (v := 0) hC hG hr hlk (by first | decide | omega) (by have e : m_ask n f M i (M 19 l0) (M 22 l0) = (0, M) := (by rw [m_ask, if_pos (by omega)]; exact ask2_had c31 c40y hI3 (hI1 c31)); rw [e]; exact ⟨rfl, X, rfl, hs, hgo⟩) dX2_hearChange_44 (h1 := by decide) (h2 := by decide)
  · have c8n := Nat.not_le.mpr c8
    refine lv_aload_n hx hb dX2_hearChange_11 rfl (lv_at hl 0 rfl) ?_
    refine lv_aload_n hx hb dX2_hearChange_12 rfl (lv_at hl 1 rfl) ?_
    refine q_gw (w := M 22 l0) hC hG cF0 i0 ((hgo.2.1 q (by rw [hq.1.1]; decide)).1.trans hq.1.1) 3 (by decide) rfl ((g_iv hs (Or.inl ((hgo.2.1 q (by rw [hq.1.1]; decide)).1.trans hq.1.1)) 3).trans (((hgo.2.2.2.2.1 q hq.1.1).2 3 (by decide)).trans hq.1.2.2.2.2.1)) k138 dX2_hearChange_13 ?_
    have bl3 := hB0.1 22 l0 rfl
    refine q_callV (rest := []) (k_X2_changeTo l D cA A hs hJ (i := i) (by omega) (M 22 l0) (by omega)) hC hG cF2 (g_kn hs (by omega)) 1 gX2_hearChange_X2_changeTo rfl (by decide +kernel) ⟨by decide, by decide⟩ rfl hl.1 rfl (by simp [Value.category]) dX2_hearChange_16 ⟨by decide, by decide⟩ (fun v Y H locs hq hG => ?_)
    obtain ⟨rfl, Xchan, rfl, hs, hgchan⟩ := hq
    have hgo := go_tr hgo hgchan
    have hJ := J_pa (i := i) (k := 3) (v := M 22 l0) (c := 0) (J_fg (J_up (J_up hJ 6 i (v := M 22 l0) (by decide) (Or.inl (by omega))) 5 i (v := 1) (by decide) (Or.inl (by decide))) i) (by omega) (by decide) (by omega) (by decide) n (by omega)
    have hB := hJ.1
    have hL := hJ.2.1
    have hE := hJ.2.2.1
    obtain ⟨a5, a6, a8, a11⟩ := chg_at (n := n) (M := M) (i := i) (v := M 22 l0)
    refine n_iconst hC 1 dX2_hearChange_19 ?_
    refine lv_aload_n hx hb dX2_hearChange_20 rfl (lv_at hl 1 rfl) ?_
    refine q_gw (w := M 19 l0) hC hG cF0 i0 ((hgo.2.1 q (by rw [hq.1.1]; decide)).1.trans hq.1.1) 0 (by decide) rfl ((g_iv hs (Or.inl ((hgo.2.1 q (by rw [hq.1.1]; decide)).1.trans hq.1.1)) 0).trans (((hgo.2.2.2.2.1 q hq.1.1).2 0 (by decide)).trans hq.1.2.1)) k169 dX2_hearChange_21 ?_
    have bl0 := hB0.1 19 l0 rfl
    refine lv_ishl hx hb dX2_hearChange_24 ?_
    refine lv_istore_n (lv' := [(2, .int ((nI 1) <<< ((nI (M 19 l0)) &&& 31))), (0, .ref (na b i)), (1, .ref q)]) hx hb dX2_hearChange_25 rfl hl (by decide) rfl (fun ls hl => ?_)
    refine lv_aload_n hx hb dX2_hearChange_26 rfl (lv_at hl 1 rfl) ?_
    refine q_gw (w := (m_chg n M i (M 22 l0)) 5 i) hC hG cF2 i2 (g_kn hs (by omega)) 9 (by decide) rfl (g_n9 (by omega)) k48 dX2_hearChange_27 ?_
    have b4 : (m_chg n M i (M 22 l0)) 5 i < 2147483648 := by have := hB.1 5 i rfl; first | exact this | (simp [up2, m_cp, m_cpk] at this; exact this) | omega
    refine n_iconst hC 1 dX2_hearChange_30 ?_
    refine n_ne (tgt := 43) hC dX2_hearChange_31 (by decide) (by omega) (by omega) (fun c31 => ?_) (fun c31 => ?_)
    · refine n_iconst hC 0 dX2_hearChange_43 ?_
      exact q_zret (v := 0) hC hG hr hlk (by first | decide | omega) (absurd a5 c31) dX2_hearChange_44 (h1 := by decide) (h2 := by decide)
    · refine lv_aload_n hx hb dX2_hearChange_34 rfl (lv_at hl 1 rfl) ?_
      refine q_gw (w := vm (m_chg n M i (M 22 l0)) (5 * i) n) hC hG cF2 i2 (g_kn hs (by omega)) 15 (by decide) rfl (g_n15 (by omega)) k65 dX2_hearChange_35 ?_
      refine lv_iload_n hx hb dX2_hearChange_38 rfl (lv_at hl 0 rfl) ?_
      refine lv_iand hx hb dX2_hearChange_39 ?_
      refine lv_if_eq (tgt := 45) hx hb dX2_hearChange_40 (by decide) (fun c40 => ?_) (fun c40 => ?_)
      · have c40y := (vm_and (m_chg n M i (M 22 l0)) (5 * i) h19 hnf).mp c40
        refine lv_aload_n hx hb dX2_hearChange_45 rfl (lv_at hl 1 rfl) ?_
        refine lv_dup hx hb dX2_hearChange_46 rfl ?_
        refine q_gw (w := vm (m_chg n M i (M 22 l0)) (5 * i) n) hC hG cF2 i2 (g_kn hs (by omega)) 15 (by decide) rfl (g_n15 (by omega)) k65 dX2_hearChange_47 ?_
        refine lv_iload_n hx hb dX2_hearChange_50 rfl (lv_at hl 0 rfl) ?_
        refine lv_ior hx hb dX2_hearChange_51 ?_
        rw [vm_or (m_chg n M i (M 22 l0)) (5 * i) h19 hnf]
        refine q_puti hC hG cF2 i2 (g_kn hs (by omega)) 15 (by decide) rfl k65 (Or.inl rfl) rfl rfl dX2_hearChange_52 (fun H locs hG => ?_)
        rw [cM_n15 (by omega) (by omega) _ _ (up2 (m_chg n M i (M 22 l0)) 11 (5 * i + M 19 l0) 1) _ (fun x y h => by have := up2_dif h; omega)] at hG
        have hs := Sd_to hs (dq_up (k := 11) (y := 5 * i + M 19 l0) (v := 1) (by omega))
        have hJ := J_up hJ 11 (5 * i + M 19 l0) (v := 1) (by decide) (Or.inl (by decide))
        have hB := hJ.1
        have hL := hJ.2.1
        have hE := hJ.2.2.1
        refine lv_aload_n hx hb dX2_hearChange_55 rfl (lv_at hl 1 rfl) ?_
        refine q_gw (w := (m_chg n M i (M 22 l0)) 8 i) hC hG cF2 i2 (g_kn hs (by omega)) 16 (by decide) rfl ((g_n16 (by omega)).trans (by simp [up2, m_cp, m_cpk])) k78 dX2_hearChange_56 ?_
        have b5 : (m_chg n M i (M 22 l0)) 8 i < 2147483648 := by have := hB.1 8 i rfl; first | exact this | (simp [up2, m_cp, m_cpk] at this; exact this) | omega
        refine n_ifne (tgt := 84) hC dX2_hearChange_59 (by decide) (by omega) (fun c59 => ?_) (fun c59 => ?_)
        · refine n_iconst hC 1 dX2_hearChange_84 ?_
          exact q_zret (v := 1) hC hG hr hlk (by first | decide | omega) (by have e : m_ask n f M i (M 19 l0) (M 22 l0) = (1, up2 (m_chg n M i (M 22 l0)) 11 (5 * i + M 19 l0) 1) := (by rw [m_ask, if_neg (by omega)]; exact ask2_few c31 c40y (Or.inl c59)); rw [e]; exact ⟨rfl, Xchan, rfl, hs, hgo⟩) dX2_hearChange_85 (h1 := by decide) (h2 := by decide)
        · refine lv_aload_n hx hb dX2_hearChange_62 rfl (lv_at hl 1 rfl) ?_
          refine q_gw (w := vm (up2 (m_chg n M i (M 22 l0)) 11 (5 * i + M 19 l0) 1) (5 * i) n) hC hG cF2 i2 (g_kn hs (by omega)) 15 (by decide) rfl (g_n15 (by omega)) k65 dX2_hearChange_63 ?_
          refine q_callS (rest := []) (k_J6_bitCount_0f7a4 l D cA A (nI (vm (up2 (m_chg n M i (M 22 l0)) 11 (5 * i + M 19 l0) 1) (5 * i) n))) hC hG 1 gX2_hearChange_J6_bitCount_0f7a4 rfl (by decide +kernel) ⟨by decide, by decide⟩ rfl hl.1 rfl (by simp [Value.category]) dX2_hearChange_66 ⟨by decide, by decide⟩ (fun v Y H locs hq hG => ?_)
          obtain ⟨rfl, rfl⟩ := hq
          rw [vm_bc (up2 (m_chg n M i (M 22 l0)) 11 (5 * i + M 19 l0) 1) _ hnf]
          have q66 := m_cnt_le (up2 (m_chg n M i (M 22 l0)) 11 (5 * i + M 19 l0) 1) 11 (5 * i) n
          refine lv_aload_n hx hb dX2_hearChange_69 rfl (lv_at hl 1 rfl) ?_
          refine q_gw (w := f) hC hG cF2 i2 (g_kn hs (by omega)) 2 (by decide) rfl (g_n2 hs (by omega)) k22 dX2_hearChange_70 ?_
          refine n_lt (tgt := 84) hC dX2_hearChange_73 (by decide) (by omega) (by omega) (fun c73 => ?_) (fun c73 => ?_)
          · have c73n := Nat.not_le.mpr c73
            refine n_iconst hC 1 dX2_hearChange_84 ?_
            exact q_zret (v := 1) hC hG hr hlk (by first | decide | omega) (by have e : m_ask n f M i (M 19 l0) (M 22 l0) = (1, up2 (m_chg n M i (M 22 l0)) 11 (5 * i + M 19 l0) 1) := (by rw [m_ask, if_neg (by omega)]; exact ask2_few c31 c40y (Or.inr (by omega))); rw [e]; exact ⟨rfl, Xchan, rfl, hs, hgo⟩) dX2_hearChange_85 (h1 := by decide) (h2 := by decide)
          · have c73n := Nat.not_lt.mpr c73
            refine lv_aload_n hx hb dX2_hearChange_76 rfl (lv_at hl 1 rfl) ?_
            refine q_callV (rest := []) (k_X2_castVote l D cA A hs hJ (i := i) (by omega) ) hC hG cF2 (g_kn hs (by omega)) 0 gX2_hearChange_X2_castVote rfl (by decide +kernel) ⟨by decide, by decide⟩ rfl hl.1 rfl (by simp [Value.category]) dX2_hearChange_77 ⟨by decide, by decide⟩ (fun v Y H locs hq hG => ?_)
            obtain ⟨rfl, Xcast, rfl, hs, hgcast⟩ := hq
            have hgo := go_tr hgo hgcast
            have hJ := J_cast (n := n) hJ (i := i) (by omega) (by omega)
            have hB := hJ.1
            have hL := hJ.2.1
            have hE := hJ.2.2.1
            refine lv_aload_n hx hb dX2_hearChange_80 rfl (lv_at hl 1 rfl) ?_
            refine q_callV (rest := []) (k_X2_leadIfElected l D cA A hs hJ (i := i) (by omega)) hC hG cF2 (g_kn hs (by omega)) 0 gX2_hearChange_X2_leadIfElected rfl (by decide +kernel) ⟨by decide, by decide⟩ rfl hl.1 rfl (by simp [Value.category]) dX2_hearChange_81 ⟨by decide, by decide⟩ (fun v Y H locs hq0 hG => ?_)
            obtain ⟨rfl, Xl, rfl, hs, hgl⟩ := hq0
            have hgo := go_tr hgo hgl
            refine n_iconst hC 1 dX2_hearChange_84 ?_
            exact q_zret (v := 1) hC hG hr hlk (by first | decide | omega) (by have e : m_ask n f M i (M 19 l0) (M 22 l0) = (1, (m_tv2 n f (c_cast n (up2 (m_chg n M i (M 22 l0)) 11 (5 * i + M 19 l0) 1) i) i).2) := (by rw [m_ask, if_neg (by omega)]; exact ask2_cast c31 c40y c59 (a11 i (by omega)).2 (by omega)); rw [e]; exact ⟨rfl, Xl, rfl, hs, hgo⟩) dX2_hearChange_85 (h1 := by decide) (h2 := by decide)
      · have c40y := fun z => c40 ((vm_and (m_chg n M i (M 22 l0)) (5 * i) h19 hnf).mpr z)
        refine n_iconst hC 0 dX2_hearChange_43 ?_
        exact q_zret (v := 0) hC hG hr hlk (by first | decide | omega) (absurd (a11 (M 19 l0) (by omega)).1 c40y) dX2_hearChange_44 (h1 := by decide) (h2 := by decide)

abbrev rmX2_hearVote : Room := { frames := 5, cells := 10, slots := 80, locals := 120 }
set_option maxHeartbeats 4000000 in
set_option maxRecDepth 100000 in
theorem k_X2_hearVote (l : Launch) (D : va_G) (cA : Nat → ClassId) (A : Nat → Prop) {b n f : Nat} {X : Mem} {M : MM} {P : Nat → Nat} (hs : Sd b n f X M) (hJ : J M) {i : Nat} (hi : i < n) {q l0 : Nat} (hq : Lt b n X M l0 q) (hl0 : l0 < M 17 0) (hkd : M 21 l0 = 4) (h19 : M 19 l0 < n) (hvw : M 6 i ≤ M 22 l0) : mt l D cA A yX2_hearVote wsX2_hearVote rmX2_hearVote [.ref (na b i), .ref q] (cM b n X M P) (fun w Y => w = some (.int (nI (m_vot n f M i (M 19 l0) (55 + l0) (M 22 l0) (M 23 l0)).1)) ∧ ∃ X1, Y = cM b n X1 (m_vot n f M i (M 19 l0) (55 + l0) (M 22 l0) (M 23 l0)).2 P ∧ Sd b n f X1 (m_vot n f M i (M 19 l0) (55 + l0) (M 22 l0) (M 23 l0)).2 ∧ go b n X X1) := by
  refine q_start (by decide) rfl (Nat.le_of_ble_eq_true rfl) (fun p e s m args below meth c H locs hC hr hlk hnm hG ls hl => ?_)
  have hl : lv_has ls 2 [(0, .ref (na b i)), (1, .ref q)] := hl
  have hx := hC.1.1
  have hb := hC.1.2.1
  have hts := hC.1.2.2.2.2
  have i2 : ∀ w ∈ wsX20, w ∈ wsX2_hearVote := by decide +kernel
  have i0 : ∀ w ∈ wsX00, w ∈ wsX2_hearVote := by decide +kernel
  have hnf := g_nf hs
  have hB := hJ.1
  have hL := hJ.2.1
  have hE := hJ.2.2.1
  have hgo := go_rf b n X
  have hB0 := hJ.1
  have hJ0 := hJ
  have h17 := hB.2
  obtain ⟨lg, hlgr, hlgY, -⟩ := hq.2
  obtain ⟨hlg4, hlgA⟩ := hlgY (by rw [hkd]; decide)
  have hL5 := hL (55 + l0) (by omega)
  have b23 := hB.1 23 l0 rfl
  have b22 := hB.1 22 l0 rfl
  have k15 := hts (.fieldLink RX2 15 "ViewStamps$Node" "number" "I") (by decide +kernel)
  have k38 := hts (.fieldLink RX2 38 "ViewStamps$Node" "votes" "[LViewStamps$Letter;") (by decide +kernel)
  have k48 := hts (.fieldLink RX2 48 "ViewStamps$Node" "status" "I") (by decide +kernel)
  have k51 := hts (.fieldLink RX2 51 "ViewStamps$Node" "view" "I") (by decide +kernel)
  have k138 := hts (.fieldLink RX2 138 "ViewStamps$Letter" "view" "I") (by decide +kernel)
  have k169 := hts (.fieldLink RX2 169 "ViewStamps$Letter" "from" "I") (by decide +kernel)
  refine lv_aload_n hx hb dX2_hearVote_0 rfl (lv_at hl 0 rfl) ?_
  refine lv_aload_n hx hb dX2_hearVote_1 rfl (lv_at hl 1 rfl) ?_
  refine q_gw (w := M 22 l0) hC hG cF0 i0 ((hgo.2.1 q (by rw [hq.1.1]; decide)).1.trans hq.1.1) 3 (by decide) rfl ((g_iv hs (Or.inl ((hgo.2.1 q (by rw [hq.1.1]; decide)).1.trans hq.1.1)) 3).trans (((hgo.2.2.2.2.1 q hq.1.1).2 3 (by decide)).trans hq.1.2.2.2.2.1)) k138 dX2_hearVote_2 ?_
  have bl3 := hB0.1 22 l0 rfl
  refine q_callV (rest := []) (k_X2_firstOf l D cA A hs hJ (i := i) (by omega) (M 22 l0) (by omega)) hC hG cF2 (g_kn hs (by omega)) 1 gX2_hearVote_X2_firstOf rfl (by decide +kernel) ⟨by decide, by decide⟩ rfl hl.1 rfl (by simp [Value.category]) dX2_hearVote_5 ⟨by decide, by decide⟩ (fun v Y H locs hq hG => ?_)
  obtain ⟨rfl, rfl⟩ := hq
  have r5 : (M 22 l0) % n < n := Nat.mod_lt _ (by omega)
  refine lv_aload_n hx hb dX2_hearVote_8 rfl (lv_at hl 0 rfl) ?_
  refine q_gw (w := i) hC hG cF2 i2 (g_kn hs (by omega)) 0 (by decide) rfl (g_n0 hs (by omega)) k15 dX2_hearVote_9 ?_
  refine n_eq (tgt := 17) hC dX2_hearVote_12 (by decide) (by omega) (by omega) (fun c12 => ?_) (fun c12 => ?_)
  · refine lv_aload_n hx hb dX2_hearVote_17 rfl (lv_at hl 0 rfl) ?_
    refine q_gw (w := M 6 i) hC hG cF2 i2 (g_kn hs (by omega)) 10 (by decide) rfl (g_n10 (by omega)) k51 dX2_hearVote_18 ?_
    have b1 : M 6 i < 2147483648 := by have := hB.1 6 i rfl; first | exact this | (simp [up2, m_cp, m_cpk] at this; exact this) | omega
    refine lv_aload_n hx hb dX2_hearVote_21 rfl (lv_at hl 1 rfl) ?_
    refine q_gw (w := M 22 l0) hC hG cF0 i0 ((hgo.2.1 q (by rw [hq.1.1]; decide)).1.trans hq.1.1) 3 (by decide) rfl ((g_iv hs (Or.inl ((hgo.2.1 q (by rw [hq.1.1]; decide)).1.trans hq.1.1)) 3).trans (((hgo.2.2.2.2.1 q hq.1.1).2 3 (by decide)).trans hq.1.2.2.2.2.1)) k138 dX2_hearVote_22 ?_
    have bl3 := hB0.1 22 l0 rfl
    refine n_ge (tgt := 36) hC dX2_hearVote_25 (by decide) (by omega) (by omega) (fun c25 => ?_) (fun c25 => ?_)
    · have c25n := Nat.not_lt.mpr c25
      refine lv_aload_n hx hb dX2_hearVote_36 rfl (lv_at hl 0 rfl) ?_
      refine q_gw (w := M 5 i) hC hG cF2 i2 (g_kn hs (by omega)) 9 (by decide) rfl (g_n9 (by omega)) k48 dX2_hearVote_37 ?_
      have b2 : M 5 i < 2147483648 := by have := hB.1 5 i rfl; first | exact this | (simp [up2, m_cp, m_cpk] at this; exact this) | omega
      refine n_iconst hC 1 dX2_hearVote_40 ?_
      refine n_ne (tgt := 56) hC dX2_hearVote_41 (by decide) (by omega) (by omega) (fun c41 => ?_) (fun c41 => ?_)
      · refine n_iconst hC 0 dX2_hearVote_56 ?_
        exact q_zret (v := 0) hC hG hr hlk (by first | decide | omega) (by have e : m_vot n f M i (M 19 l0) (55 + l0) (M 22 l0) (M 23 l0) = (0, M) := (by rw [m_vot, if_pos c12, if_pos (by omega)]; exact tv_no (by omega)); rw [e]; exact ⟨rfl, X, rfl, hs, hgo⟩) dX2_hearVote_57 (h1 := by decide) (h2 := by decide)
      · refine lv_aload_n hx hb dX2_hearVote_44 rfl (lv_at hl 0 rfl) ?_
        refine q_getr hC hG cF2 i2 (g_kn hs (by omega)) 5 (by decide) rfl (hs.1.2.2.2.2.2.1 i (by omega)).2.1.2.2.1 k38 dX2_hearVote_45 ?_
        refine lv_aload_n hx hb dX2_hearVote_48 rfl (lv_at hl 1 rfl) ?_
        refine q_gw (w := M 19 l0) hC hG cF0 i0 ((hgo.2.1 q (by rw [hq.1.1]; decide)).1.trans hq.1.1) 0 (by decide) rfl ((g_iv hs (Or.inl ((hgo.2.1 q (by rw [hq.1.1]; decide)).1.trans hq.1.1)) 0).trans (((hgo.2.2.2.2.1 q hq.1.1).2 0 (by decide)).trans hq.1.2.1)) k169 dX2_hearVote_49 ?_
        have bl0 := hB0.1 19 l0 rfl
        have hVv := hs.2.2.2.2.1 i (M 19 l0) (by omega) (by omega)
        by_cases h12v : M 12 (5 * i + (M 19 l0)) = 0
        · refine q_aw (v := .null) hC hG (Or.inl (show kd X (na b i + 2) = 9 ∧ ln X (na b i + 2) = n from ⟨(hs.1.2.2.2.2.2.1 i (by omega)).2.2.2.2.1, (hs.1.2.2.2.2.2.1 i (by omega)).2.2.2.2.2.1⟩).1) (show kd X (na b i + 2) = 9 ∧ ln X (na b i + 2) = n from ⟨(hs.1.2.2.2.2.2.1 i (by omega)).2.2.2.2.1, (hs.1.2.2.2.2.2.1 i (by omega)).2.2.2.2.2.1⟩).2 (by omega) (by omega) (by rw [show rv (cM b n X M P) (na b i + 2) (M 19 l0) = none from hVv.1 h12v]; rfl) dX2_hearVote_52 ?_
          refine lv_ifnullN (tgt := 58) hx hb dX2_hearVote_53 (by decide) ?_
          refine lv_aload_n hx hb dX2_hearVote_58 rfl (lv_at hl 0 rfl) ?_
          refine q_getr hC hG cF2 i2 (g_kn hs (by omega)) 5 (by decide) rfl (hs.1.2.2.2.2.2.1 i (by omega)).2.1.2.2.1 k38 dX2_hearVote_59 ?_
          refine lv_aload_n hx hb dX2_hearVote_62 rfl (lv_at hl 1 rfl) ?_
          refine q_gw (w := M 19 l0) hC hG cF0 i0 ((hgo.2.1 q (by rw [hq.1.1]; decide)).1.trans hq.1.1) 0 (by decide) rfl ((g_iv hs (Or.inl ((hgo.2.1 q (by rw [hq.1.1]; decide)).1.trans hq.1.1)) 0).trans (((hgo.2.2.2.2.1 q hq.1.1).2 0 (by decide)).trans hq.1.2.1)) k169 dX2_hearVote_63 ?_
          have bl0 := hB0.1 19 l0 rfl
          refine lv_aload_n hx hb dX2_hearVote_66 rfl (lv_at hl 1 rfl) ?_
          refine q_aast (n := n) hC hG (Or.inl ⟨(show kd X (na b i + 2) = 9 ∧ ln X (na b i + 2) = n from ⟨(hs.1.2.2.2.2.2.1 i (by omega)).2.2.2.2.1, (hs.1.2.2.2.2.2.1 i (by omega)).2.2.2.2.2.1⟩).1, ((hgo.2.1 q (by rw [hq.1.1]; decide)).1.trans hq.1.1)⟩) (show kd X (na b i + 2) = 9 ∧ ln X (na b i + 2) = n from ⟨(hs.1.2.2.2.2.2.1 i (by omega)).2.2.2.2.1, (hs.1.2.2.2.2.2.1 i (by omega)).2.2.2.2.2.1⟩).2 (by omega) (by omega) dX2_hearVote_67 (fun H locs hG => ?_)
          rw [cM_wR] at hG
          obtain ⟨ec, hs, hgv, hJ⟩ := c_vote (i := i) (j := M 19 l0) (c := M 23 l0) (g := 55 + l0) P hs hJ (by omega) (by omega) (by omega) ⟨((hgo.2.1 q (by rw [hq.1.1]; decide)).1.trans hq.1.1), ((hgo.2.2.2.2.1 q hq.1.1).2 4 (by decide)).trans hlg4, ((hgo.2.2.2.2.1 q hq.1.1).2 5 (by decide)).trans hq.1.2.2.2.2.2.1, by omega, lg, (hgo.2.2.2.2.1 q hq.1.1).1.trans hlgr, hlgA.go hgo⟩
          rw [ec] at hG
          have hgo := go_tr hgo hgv
          have hB := hJ.1
          have hL := hJ.2.1
          have hE := hJ.2.2.1
          refine lv_aload_n hx hb dX2_hearVote_68 rfl (lv_at hl 0 rfl) ?_
          refine q_callV (rest := []) (k_X2_leadIfElected l D cA A hs hJ (i := i) (by omega)) hC hG cF2 (g_kn hs (by omega)) 0 gX2_hearVote_X2_leadIfElected rfl (by decide +kernel) ⟨by decide, by decide⟩ rfl hl.1 rfl (by simp [Value.category]) dX2_hearVote_69 ⟨by decide, by decide⟩ (fun v Y H locs hq0 hG => ?_)
          obtain ⟨rfl, Xl, rfl, hs, hgl⟩ := hq0
          have hgo := go_tr hgo hgl
          refine n_iconst hC 1 dX2_hearVote_72 ?_
          exact q_zret (v := 1) hC hG hr hlk (by first | decide | omega) (by have e : m_vot n f M i (M 19 l0) (55 + l0) (M 22 l0) (M 23 l0) = (1, (m_tv2 n f (m_vt M i (M 19 l0) (55 + l0) (M 23 l0)) i).2) := (by rw [m_vot, if_pos c12, if_pos (by omega)]; exact tv_yes (by omega) (by omega)); rw [e]; exact ⟨rfl, Xl, rfl, hs, hgo⟩) dX2_hearVote_73 (h1 := by decide) (h2 := by decide)
        · obtain ⟨qv, lv, vva, vvk, vv4, vv5, vvr, vvl⟩ := hVv.2 h12v
          refine q_aw (v := .ref qv) hC hG (Or.inl (show kd X (na b i + 2) = 9 ∧ ln X (na b i + 2) = n from ⟨(hs.1.2.2.2.2.2.1 i (by omega)).2.2.2.2.1, (hs.1.2.2.2.2.2.1 i (by omega)).2.2.2.2.2.1⟩).1) (show kd X (na b i + 2) = 9 ∧ ln X (na b i + 2) = n from ⟨(hs.1.2.2.2.2.2.1 i (by omega)).2.2.2.2.1, (hs.1.2.2.2.2.2.1 i (by omega)).2.2.2.2.2.1⟩).2 (by omega) (by omega) (by rw [show rv (cM b n X M P) (na b i + 2) (M 19 l0) = some qv from vva]; rfl) dX2_hearVote_52 ?_
          have hLv := hL (5 + 5 * i + (M 19 l0)) (by omega)
          have b13v := hB.1 13 (5 * i + (M 19 l0)) rfl
          have b4v := hB.1 4 (5 + 5 * i + (M 19 l0)) rfl
          refine lv_ifnull hx hb dX2_hearVote_53 ?_
          refine n_iconst hC 0 dX2_hearVote_56 ?_
          exact q_zret (v := 0) hC hG hr hlk (by first | decide | omega) (by have e : m_vot n f M i (M 19 l0) (55 + l0) (M 22 l0) (M 23 l0) = (0, M) := (by rw [m_vot, if_pos c12, if_pos (by omega)]; exact tv_no (by omega)); rw [e]; exact ⟨rfl, X, rfl, hs, hgo⟩) dX2_hearVote_57 (h1 := by decide) (h2 := by decide)
    · have c25n := Nat.not_le.mpr c25
      refine lv_aload_n hx hb dX2_hearVote_28 rfl (lv_at hl 0 rfl) ?_
      refine lv_aload_n hx hb dX2_hearVote_29 rfl (lv_at hl 1 rfl) ?_
      refine q_gw (w := M 22 l0) hC hG cF0 i0 ((hgo.2.1 q (by rw [hq.1.1]; decide)).1.trans hq.1.1) 3 (by decide) rfl ((g_iv hs (Or.inl ((hgo.2.1 q (by rw [hq.1.1]; decide)).1.trans hq.1.1)) 3).trans (((hgo.2.2.2.2.1 q hq.1.1).2 3 (by decide)).trans hq.1.2.2.2.2.1)) k138 dX2_hearVote_30 ?_
      have bl3 := hB0.1 22 l0 rfl
      refine q_callV (rest := []) (k_X2_changeTo l D cA A hs hJ (i := i) (by omega) (M 22 l0) (by omega)) hC hG cF2 (g_kn hs (by omega)) 1 gX2_hearVote_X2_changeTo rfl (by decide +kernel) ⟨by decide, by decide⟩ rfl hl.1 rfl (by simp [Value.category]) dX2_hearVote_33 ⟨by decide, by decide⟩ (fun v Y H locs hq hG => ?_)
      obtain ⟨rfl, Xchan, rfl, hs, hgchan⟩ := hq
      have hgo := go_tr hgo hgchan
      have hJ := J_pa (i := i) (k := 3) (v := M 22 l0) (c := 0) (J_fg (J_up (J_up hJ 6 i (v := M 22 l0) (by decide) (Or.inl (by omega))) 5 i (v := 1) (by decide) (Or.inl (by decide))) i) (by omega) (by decide) (by omega) (by decide) n (by omega)
      have hB := hJ.1
      have hL := hJ.2.1
      have hE := hJ.2.2.1
      obtain ⟨a5, a6, a8, a11⟩ := chg_at (n := n) (M := M) (i := i) (v := M 22 l0)
      refine lv_aload_n hx hb dX2_hearVote_36 rfl (lv_at hl 0 rfl) ?_
      refine q_gw (w := (m_chg n M i (M 22 l0)) 5 i) hC hG cF2 i2 (g_kn hs (by omega)) 9 (by decide) rfl (g_n9 (by omega)) k48 dX2_hearVote_37 ?_
      have b3 : (m_chg n M i (M 22 l0)) 5 i < 2147483648 := by have := hB.1 5 i rfl; first | exact this | (simp [up2, m_cp, m_cpk] at this; exact this) | omega
      refine n_iconst hC 1 dX2_hearVote_40 ?_
      refine n_ne (tgt := 56) hC dX2_hearVote_41 (by decide) (by omega) (by omega) (fun c41 => ?_) (fun c41 => ?_)
      · refine n_iconst hC 0 dX2_hearVote_56 ?_
        exact q_zret (v := 0) hC hG hr hlk (by first | decide | omega) (absurd a5 c41) dX2_hearVote_57 (h1 := by decide) (h2 := by decide)
      · refine lv_aload_n hx hb dX2_hearVote_44 rfl (lv_at hl 0 rfl) ?_
        refine q_getr hC hG cF2 i2 (g_kn hs (by omega)) 5 (by decide) rfl (hs.1.2.2.2.2.2.1 i (by omega)).2.1.2.2.1 k38 dX2_hearVote_45 ?_
        refine lv_aload_n hx hb dX2_hearVote_48 rfl (lv_at hl 1 rfl) ?_
        refine q_gw (w := M 19 l0) hC hG cF0 i0 ((hgo.2.1 q (by rw [hq.1.1]; decide)).1.trans hq.1.1) 0 (by decide) rfl ((g_iv hs (Or.inl ((hgo.2.1 q (by rw [hq.1.1]; decide)).1.trans hq.1.1)) 0).trans (((hgo.2.2.2.2.1 q hq.1.1).2 0 (by decide)).trans hq.1.2.1)) k169 dX2_hearVote_49 ?_
        have bl0 := hB0.1 19 l0 rfl
        have hVv := hs.2.2.2.2.1 i (M 19 l0) (by omega) (by omega)
        by_cases h12v : (m_chg n M i (M 22 l0)) 12 (5 * i + (M 19 l0)) = 0
        · refine q_aw (v := .null) hC hG (Or.inl (show kd Xchan (na b i + 2) = 9 ∧ ln Xchan (na b i + 2) = n from ⟨(hs.1.2.2.2.2.2.1 i (by omega)).2.2.2.2.1, (hs.1.2.2.2.2.2.1 i (by omega)).2.2.2.2.2.1⟩).1) (show kd Xchan (na b i + 2) = 9 ∧ ln Xchan (na b i + 2) = n from ⟨(hs.1.2.2.2.2.2.1 i (by omega)).2.2.2.2.1, (hs.1.2.2.2.2.2.1 i (by omega)).2.2.2.2.2.1⟩).2 (by omega) (by omega) (by rw [show rv (cM b n Xchan (m_chg n M i (M 22 l0)) P) (na b i + 2) (M 19 l0) = none from hVv.1 h12v]; rfl) dX2_hearVote_52 ?_
          refine lv_ifnullN (tgt := 58) hx hb dX2_hearVote_53 (by decide) ?_
          refine lv_aload_n hx hb dX2_hearVote_58 rfl (lv_at hl 0 rfl) ?_
          refine q_getr hC hG cF2 i2 (g_kn hs (by omega)) 5 (by decide) rfl (hs.1.2.2.2.2.2.1 i (by omega)).2.1.2.2.1 k38 dX2_hearVote_59 ?_
          refine lv_aload_n hx hb dX2_hearVote_62 rfl (lv_at hl 1 rfl) ?_
          refine q_gw (w := M 19 l0) hC hG cF0 i0 ((hgo.2.1 q (by rw [hq.1.1]; decide)).1.trans hq.1.1) 0 (by decide) rfl ((g_iv hs (Or.inl ((hgo.2.1 q (by rw [hq.1.1]; decide)).1.trans hq.1.1)) 0).trans (((hgo.2.2.2.2.1 q hq.1.1).2 0 (by decide)).trans hq.1.2.1)) k169 dX2_hearVote_63 ?_
          have bl0 := hB0.1 19 l0 rfl
          refine lv_aload_n hx hb dX2_hearVote_66 rfl (lv_at hl 1 rfl) ?_
          refine q_aast (n := n) hC hG (Or.inl ⟨(show kd Xchan (na b i + 2) = 9 ∧ ln Xchan (na b i + 2) = n from ⟨(hs.1.2.2.2.2.2.1 i (by omega)).2.2.2.2.1, (hs.1.2.2.2.2.2.1 i (by omega)).2.2.2.2.2.1⟩).1, ((hgo.2.1 q (by rw [hq.1.1]; decide)).1.trans hq.1.1)⟩) (show kd Xchan (na b i + 2) = 9 ∧ ln Xchan (na b i + 2) = n from ⟨(hs.1.2.2.2.2.2.1 i (by omega)).2.2.2.2.1, (hs.1.2.2.2.2.2.1 i (by omega)).2.2.2.2.2.1⟩).2 (by omega) (by omega) dX2_hearVote_67 (fun H locs hG => ?_)
          rw [cM_wR] at hG
          obtain ⟨ec, hs, hgv, hJ⟩ := c_vote (i := i) (j := M 19 l0) (c := M 23 l0) (g := 55 + l0) P hs hJ (by omega) (by omega) (by omega) ⟨((hgo.2.1 q (by rw [hq.1.1]; decide)).1.trans hq.1.1), ((hgo.2.2.2.2.1 q hq.1.1).2 4 (by decide)).trans (hlg4.trans (chg_o (by omega)).symm), ((hgo.2.2.2.2.1 q hq.1.1).2 5 (by decide)).trans hq.1.2.2.2.2.2.1, by omega, lg, (hgo.2.2.2.2.1 q hq.1.1).1.trans hlgr, (hlgA.go hgo).to (chg_o (by omega)) (fun k _ => chg_o (by omega))⟩
          rw [ec] at hG
          have hgo := go_tr hgo hgv
          have hB := hJ.1
          have hL := hJ.2.1
          have hE := hJ.2.2.1
          refine lv_aload_n hx hb dX2_hearVote_68 rfl (lv_at hl 0 rfl) ?_
          refine q_callV (rest := []) (k_X2_leadIfElected l D cA A hs hJ (i := i) (by omega)) hC hG cF2 (g_kn hs (by omega)) 0 gX2_hearVote_X2_leadIfElected rfl (by decide +kernel) ⟨by decide, by decide⟩ rfl hl.1 rfl (by simp [Value.category]) dX2_hearVote_69 ⟨by decide, by decide⟩ (fun v Y H locs hq0 hG => ?_)
          obtain ⟨rfl, Xl, rfl, hs, hgl⟩ := hq0
          have hgo := go_tr hgo hgl
          refine n_iconst hC 1 dX2_hearVote_72 ?_
          exact q_zret (v := 1) hC hG hr hlk (by first | decide | omega) (by have e : m_vot n f M i (M 19 l0) (55 + l0) (M 22 l0) (M 23 l0) = (1, (m_tv2 n f (m_vt (m_chg n M i (M 22 l0)) i (M 19 l0) (55 + l0) (M 23 l0)) i).2) := (by rw [m_vot, if_pos c12, if_neg (by omega)]; rw [tv_yes a5 (by omega)]); rw [e]; exact ⟨rfl, Xl, rfl, hs, hgo⟩) dX2_hearVote_73 (h1 := by decide) (h2 := by decide)
        · obtain ⟨qv, lv, vva, vvk, vv4, vv5, vvr, vvl⟩ := hVv.2 h12v
          refine q_aw (v := .ref qv) hC hG (Or.inl (show kd Xchan (na b i + 2) = 9 ∧ ln Xchan (na b i + 2) = n from ⟨(hs.1.2.2.2.2.2.1 i (by omega)).2.2.2.2.1, (hs.1.2.2.2.2.2.1 i (by omega)).2.2.2.2.2.1⟩).1) (show kd Xchan (na b i + 2) = 9 ∧ ln Xchan (na b i + 2) = n from ⟨(hs.1.2.2.2.2.2.1 i (by omega)).2.2.2.2.1, (hs.1.2.2.2.2.2.1 i (by omega)).2.2.2.2.2.1⟩).2 (by omega) (by omega) (by rw [show rv (cM b n Xchan (m_chg n M i (M 22 l0)) P) (na b i + 2) (M 19 l0) = some qv from vva]; rfl) dX2_hearVote_52 ?_
          have hLv := hL (5 + 5 * i + (M 19 l0)) (by omega)
          have b13v := hB.1 13 (5 * i + (M 19 l0)) rfl
          have b4v := hB.1 4 (5 + 5 * i + (M 19 l0)) rfl
          refine lv_ifnull hx hb dX2_hearVote_53 ?_
          refine n_iconst hC 0 dX2_hearVote_56 ?_
          exact q_zret (v := 0) hC hG hr hlk (by first | decide | omega) (absurd (a11 (M 19 l0) (by omega)).2 h12v) dX2_hearVote_57 (h1 := by decide) (h2 := by decide)
  · refine n_iconst hC 0 dX2_hearVote_15 ?_
    exact q_zret (v := 0) hC hG hr hlk (by first | decide | omega) (by have e : m_vot n f M i (M 19 l0) (55 + l0) (M 22 l0) (M 23 l0) = (0, M) := (by rw [m_vot, if_neg c12]); rw [e]; exact ⟨rfl, X, rfl, hs, hgo⟩) dX2_hearVote_16 (h1 := by decide) (h2 := by decide)

abbrev rmX2_countTold : Room := { frames := 0, cells := 0, slots := 0, locals := 0 }
set_option maxHeartbeats 4000000 in
set_option maxRecDepth 100000 in
theorem k_X2_countTold (l : Launch) (D : va_G) (cA : Nat → ClassId) (A : Nat → Prop) {b n f : Nat} {X : Mem} {M : MM} {P : Nat → Nat} (hs : Sd b n f X M) (hJ : J M) {i : Nat} (hi : i < n) (x : Nat) (hx0 : x < 2147483648) : mt l D cA A yX2_countTold wsX2_countTold rmX2_countTold [.ref (na b i), .int (nI x)] (cM b n X M P) (fun w Y => w = some (.int (nI (c_ct M i x n))) ∧ Y = cM b n X M P) := by
  refine q_start (by decide) rfl (Nat.le_of_ble_eq_true rfl) (fun p e s m args below meth c H locs hC hr hlk hnm hG ls hl => ?_)
  have hl : lv_has ls 7 [(0, .ref (na b i)), (1, .int (nI x))] := hl
  have hx := hC.1.1
  have hb := hC.1.2.1
  have hts := hC.1.2.2.2.2
  have i2 : ∀ w ∈ wsX20, w ∈ wsX2_countTold := by decide +kernel
  have hnf := g_nf hs
  have hB := hJ.1
  have hL := hJ.2.1
  have hE := hJ.2.2.1
  have k45 := hts (.fieldLink RX2 45 "ViewStamps$Node" "told" "[I") (by decide +kernel)
  refine n_iconst hC 0 dX2_countTold_0 ?_
  refine lv_istore_n (lv' := [(2, .int (nI 0)), (0, .ref (na b i)), (1, .int (nI x))]) hx hb dX2_countTold_1 rfl hl (by decide) rfl (fun ls hl => ?_)
  refine lv_aload_n hx hb dX2_countTold_2 rfl (lv_at hl 1 rfl) ?_
  refine q_getr hC hG cF2 i2 (g_kn hs (by omega)) 8 (by decide) rfl (hs.1.2.2.2.2.2.1 i (by omega)).2.1.2.2.2.2.2 k45 dX2_countTold_3 ?_
  refine lv_astore_n (lv' := [(3, .ref (na b i + 4)), (2, .int (nI 0)), (0, .ref (na b i)), (1, .int (nI x))]) hx hb dX2_countTold_6 rfl hl (by decide) rfl (fun ls hl => ?_)
  refine lv_aload_n hx hb dX2_countTold_7 rfl (lv_at hl 0 rfl) ?_
  refine q_alen hC hG (k := 7) (show kd X (na b i + 4) = 7 ∧ ln X (na b i + 4) = n from ⟨(hs.1.2.2.2.2.2.1 i (by omega)).2.2.2.2.2.2.2.2.1, (hs.1.2.2.2.2.2.1 i (by omega)).2.2.2.2.2.2.2.2.2⟩).1 (by decide) (by decide) (show kd X (na b i + 4) = 7 ∧ ln X (na b i + 4) = n from ⟨(hs.1.2.2.2.2.2.1 i (by omega)).2.2.2.2.2.2.2.2.1, (hs.1.2.2.2.2.2.1 i (by omega)).2.2.2.2.2.2.2.2.2⟩).2 dX2_countTold_8 ?_
  refine lv_istore (lv' := [(4, .int (nI n)), (3, .ref (na b i + 4)), (2, .int (nI 0)), (0, .ref (na b i)), (1, .int (nI x))]) hx hb dX2_countTold_9 hl (by decide) rfl (fun ls hl => ?_)
  refine n_iconst hC 0 dX2_countTold_11 ?_
  refine lv_istore (lv' := [(5, .int (nI 0)), (4, .int (nI n)), (3, .ref (na b i + 4)), (2, .int (nI 0)), (0, .ref (na b i)), (1, .int (nI x))]) hx hb dX2_countTold_12 hl (by decide) rfl (fun ls hl => ?_)
  have loop : ∀ (d : Nat) (j : Nat) (H : Heap) (locs : List Loc) (ls : Array Slot), n - j < d → j ≤ n → gw D cA A (cM b n X M P) s.heap H locs → lv_has ls 7 [(0, .ref (na b i)), (1, .int (nI x)), (2, .int (nI (c_ct M i x j))), (3, .ref (na b i + 4)), (4, .int (nI n)), (5, .int (nI j))] → W p l e rmX2_countTold s m args below meth c H locs 0 0 (MQ below (mQ D cA A (fun w Y => w = some (.int (nI (c_ct M i x n))) ∧ Y = cM b n X M P)) args s rmX2_countTold.cells rmX2_countTold.slots A) (F0 m 14 ls []) := by
    intro d
    induction d with
    | zero => intro j H locs ls hd; exact absurd hd (Nat.not_lt_zero _)
    | succ d ih =>
      intro j H locs ls hd hj hG hl
      have hct := c_ct_le M i x j
      refine lv_iload hx hb dX2_countTold_14 (lv_at hl 5 rfl) ?_
      refine lv_iload hx hb dX2_countTold_16 (lv_at hl 4 rfl) ?_
      refine n_ge (tgt := 47) hC dX2_countTold_18 (by decide) (by omega) (by omega) (fun c18 => ?_) (fun c18 => ?_)
      · have c18n := Nat.not_lt.mpr c18
        refine lv_iload_n hx hb dX2_countTold_47 rfl (lv_at hl 2 rfl) ?_
        exact q_iret (v := (nI (c_ct M i x j))) hC hG hr hlk (⟨by rw [show j = n by omega], rfl⟩) dX2_countTold_48
      · have c18n := Nat.not_le.mpr c18
        refine lv_aload_n hx hb dX2_countTold_21 rfl (lv_at hl 3 rfl) ?_
        refine lv_iload hx hb dX2_countTold_22 (lv_at hl 5 rfl) ?_
        refine q_iw (w := M 10 (5 * i + j)) hC hG (show kd X (na b i + 4) = 7 ∧ ln X (na b i + 4) = n from ⟨(hs.1.2.2.2.2.2.1 i (by omega)).2.2.2.2.2.2.2.2.1, (hs.1.2.2.2.2.2.1 i (by omega)).2.2.2.2.2.2.2.2.2⟩).1 (show kd X (na b i + 4) = 7 ∧ ln X (na b i + 4) = n from ⟨(hs.1.2.2.2.2.2.1 i (by omega)).2.2.2.2.2.2.2.2.1, (hs.1.2.2.2.2.2.1 i (by omega)).2.2.2.2.2.2.2.2.2⟩).2 (by omega) (by omega) (cM_t (by omega) (by omega) _ _ _) dX2_countTold_24 ?_
        have b1 : M 10 (5 * i + j) < 2147483648 := by have := hB.1 10 (5 * i + j) rfl; first | exact this | (simp [up2, m_cp, m_cpk] at this; exact this) | omega
        refine lv_istore (lv' := [(6, .int (nI (M 10 (5 * i + j)))), (0, .ref (na b i)), (1, .int (nI x)), (2, .int (nI (c_ct M i x j))), (3, .ref (na b i + 4)), (4, .int (nI n)), (5, .int (nI j))]) hx hb dX2_countTold_25 hl (by decide) rfl (fun ls hl => ?_)
        refine lv_iload_n hx hb dX2_countTold_27 rfl (lv_at hl 3 rfl) ?_
        refine lv_iload hx hb dX2_countTold_28 (lv_at hl 0 rfl) ?_
        refine lv_iload_n hx hb dX2_countTold_30 rfl (lv_at hl 2 rfl) ?_
        refine n_lt (tgt := 38) hC dX2_countTold_31 (by decide) (by omega) (by omega) (fun c31 => ?_) (fun c31 => ?_)
        · have c31n := Nat.not_le.mpr c31
          refine n_iconst hC 0 dX2_countTold_38 ?_
          refine n_iadd hC dX2_countTold_39 ?_
          refine lv_istore_n (lv' := [(2, .int (nI ((c_ct M i x j) + 0))), (6, .int (nI (M 10 (5 * i + j)))), (0, .ref (na b i)), (1, .int (nI x)), (3, .ref (na b i + 4)), (4, .int (nI n)), (5, .int (nI j))]) hx hb dX2_countTold_40 rfl hl (by decide) rfl (fun ls hl => ?_)
          refine n_iinc (n := 1) (k := 6) (lv' := [(5, .int (nI (j + 1))), (2, .int (nI ((c_ct M i x j) + 0))), (6, .int (nI (M 10 (5 * i + j)))), (0, .ref (na b i)), (1, .int (nI x)), (3, .ref (na b i + 4)), (4, .int (nI n))]) hC dX2_countTold_41 hl rfl (by decide) rfl (fun ls hl => ?_)
          refine lv_goto (tgt := 14) hx hb dX2_countTold_44 (by decide) ?_
          have e0 : c_ct M i x (j + 1) = c_ct M i x j + 0 := by simp only [c_ct, if_pos c31]
          exact ih (j + 1) _ _ _ (by omega) (by omega) hG (by rw [e0]; exact (lv_sub hl [3, 4, 1, 5, 6, 0] rfl))
        · have c31n := Nat.not_lt.mpr c31
          refine n_iconst hC 1 dX2_countTold_34 ?_
          refine lv_goto (tgt := 39) hx hb dX2_countTold_35 (by decide) ?_
          refine n_iadd hC dX2_countTold_39 ?_
          refine lv_istore_n (lv' := [(2, .int (nI ((c_ct M i x j) + 1))), (6, .int (nI (M 10 (5 * i + j)))), (0, .ref (na b i)), (1, .int (nI x)), (3, .ref (na b i + 4)), (4, .int (nI n)), (5, .int (nI j))]) hx hb dX2_countTold_40 rfl hl (by decide) rfl (fun ls hl => ?_)
          refine n_iinc (n := 1) (k := 6) (lv' := [(5, .int (nI (j + 1))), (2, .int (nI ((c_ct M i x j) + 1))), (6, .int (nI (M 10 (5 * i + j)))), (0, .ref (na b i)), (1, .int (nI x)), (3, .ref (na b i + 4)), (4, .int (nI n))]) hC dX2_countTold_41 hl rfl (by decide) rfl (fun ls hl => ?_)
          refine lv_goto (tgt := 14) hx hb dX2_countTold_44 (by decide) ?_
          have e0 : c_ct M i x (j + 1) = c_ct M i x j + 1 := by simp only [c_ct, if_neg c31n]
          exact ih (j + 1) _ _ _ (by omega) (by omega) hG (by rw [e0]; exact (lv_sub hl [3, 4, 1, 5, 6, 0] rfl))
  exact loop (n + 1) 0 _ _ _ (by omega) (by omega) hG (lv_sub hl [4, 5, 3, 2, 1, 0] rfl)

abbrev rmX2_heldByEnough : Room := { frames := 1, cells := 0, slots := 0, locals := 26 }
set_option maxHeartbeats 4000000 in
set_option maxRecDepth 100000 in
theorem k_X2_heldByEnough (l : Launch) (D : va_G) (cA : Nat → ClassId) (A : Nat → Prop) {b n f : Nat} {X : Mem} {M : MM} {P : Nat → Nat} (hs : Sd b n f X M) (hJ : J M) {i : Nat} (hi : i < n) : mt l D cA A yX2_heldByEnough wsX2_heldByEnough rmX2_heldByEnough [.ref (na b i)] (cM b n X M P) (fun w Y => w = some (.int (nI (c_hb n f M i n))) ∧ Y = cM b n X M P) := by
  refine q_start (by decide) rfl (Nat.le_of_ble_eq_true rfl) (fun p e s m args below meth c H locs hC hr hlk hnm hG ls hl => ?_)
  have hl : lv_has ls 6 [(0, .ref (na b i))] := hl
  have hx := hC.1.1
  have hb := hC.1.2.1
  have hts := hC.1.2.2.2.2
  have i2 : ∀ w ∈ wsX20, w ∈ wsX2_heldByEnough := by decide +kernel
  have hnf := g_nf hs
  have hB := hJ.1
  have hL := hJ.2.1
  have hE := hJ.2.2.1
  have k22 := hts (.fieldLink RX2 22 "ViewStamps$Node" "enough" "I") (by decide +kernel)
  have k45 := hts (.fieldLink RX2 45 "ViewStamps$Node" "told" "[I") (by decide +kernel)
  refine n_iconst hC 0 dX2_heldByEnough_0 ?_
  refine lv_istore_n (lv' := [(1, .int (nI 0)), (0, .ref (na b i))]) hx hb dX2_heldByEnough_1 rfl hl (by decide) rfl (fun ls hl => ?_)
  refine lv_aload_n hx hb dX2_heldByEnough_2 rfl (lv_at hl 1 rfl) ?_
  refine q_getr hC hG cF2 i2 (g_kn hs (by omega)) 8 (by decide) rfl (hs.1.2.2.2.2.2.1 i (by omega)).2.1.2.2.2.2.2 k45 dX2_heldByEnough_3 ?_
  refine lv_astore_n (lv' := [(2, .ref (na b i + 4)), (1, .int (nI 0)), (0, .ref (na b i))]) hx hb dX2_heldByEnough_6 rfl hl (by decide) rfl (fun ls hl => ?_)
  refine lv_aload_n hx hb dX2_heldByEnough_7 rfl (lv_at hl 0 rfl) ?_
  refine q_alen hC hG (k := 7) (show kd X (na b i + 4) = 7 ∧ ln X (na b i + 4) = n from ⟨(hs.1.2.2.2.2.2.1 i (by omega)).2.2.2.2.2.2.2.2.1, (hs.1.2.2.2.2.2.1 i (by omega)).2.2.2.2.2.2.2.2.2⟩).1 (by decide) (by decide) (show kd X (na b i + 4) = 7 ∧ ln X (na b i + 4) = n from ⟨(hs.1.2.2.2.2.2.1 i (by omega)).2.2.2.2.2.2.2.2.1, (hs.1.2.2.2.2.2.1 i (by omega)).2.2.2.2.2.2.2.2.2⟩).2 dX2_heldByEnough_8 ?_
  refine lv_istore_n (lv' := [(3, .int (nI n)), (2, .ref (na b i + 4)), (1, .int (nI 0)), (0, .ref (na b i))]) hx hb dX2_heldByEnough_9 rfl hl (by decide) rfl (fun ls hl => ?_)
  refine n_iconst hC 0 dX2_heldByEnough_10 ?_
  refine lv_istore (lv' := [(4, .int (nI 0)), (3, .int (nI n)), (2, .ref (na b i + 4)), (1, .int (nI 0)), (0, .ref (na b i))]) hx hb dX2_heldByEnough_11 hl (by decide) rfl (fun ls hl => ?_)
  have loop : ∀ (d : Nat) (j : Nat) (H : Heap) (locs : List Loc) (ls : Array Slot), n - j < d → j ≤ n → gw D cA A (cM b n X M P) s.heap H locs → lv_has ls 6 [(0, .ref (na b i)), (1, .int (nI (c_hb n f M i j))), (2, .ref (na b i + 4)), (3, .int (nI n)), (4, .int (nI j))] → W p l e rmX2_heldByEnough s m args below meth c H locs 0 0 (MQ below (mQ D cA A (fun w Y => w = some (.int (nI (c_hb n f M i n))) ∧ Y = cM b n X M P)) args s rmX2_heldByEnough.cells rmX2_heldByEnough.slots A) (F0 m 13 ls []) := by
    intro d
    induction d with
    | zero => intro j H locs ls hd; exact absurd hd (Nat.not_lt_zero _)
    | succ d ih =>
      intro j H locs ls hd hj hG hl
      have hct := c_hb_lt (n := n) (f := f) hJ.1 i j
      refine lv_iload hx hb dX2_heldByEnough_13 (lv_at hl 4 rfl) ?_
      refine lv_iload_n hx hb dX2_heldByEnough_15 rfl (lv_at hl 3 rfl) ?_
      refine n_ge (tgt := 53) hC dX2_heldByEnough_16 (by decide) (by omega) (by omega) (fun c16 => ?_) (fun c16 => ?_)
      · have c16n := Nat.not_lt.mpr c16
        refine lv_iload_n hx hb dX2_heldByEnough_53 rfl (lv_at hl 1 rfl) ?_
        exact q_iret (v := (nI (c_hb n f M i j))) hC hG hr hlk (⟨by rw [show j = n by omega], rfl⟩) dX2_heldByEnough_54
      · have c16n := Nat.not_le.mpr c16
        refine lv_aload_n hx hb dX2_heldByEnough_19 rfl (lv_at hl 2 rfl) ?_
        refine lv_iload hx hb dX2_heldByEnough_20 (lv_at hl 4 rfl) ?_
        refine q_iw (w := M 10 (5 * i + j)) hC hG (show kd X (na b i + 4) = 7 ∧ ln X (na b i + 4) = n from ⟨(hs.1.2.2.2.2.2.1 i (by omega)).2.2.2.2.2.2.2.2.1, (hs.1.2.2.2.2.2.1 i (by omega)).2.2.2.2.2.2.2.2.2⟩).1 (show kd X (na b i + 4) = 7 ∧ ln X (na b i + 4) = n from ⟨(hs.1.2.2.2.2.2.1 i (by omega)).2.2.2.2.2.2.2.2.1, (hs.1.2.2.2.2.2.1 i (by omega)).2.2.2.2.2.2.2.2.2⟩).2 (by omega) (by omega) (cM_t (by omega) (by omega) _ _ _) dX2_heldByEnough_22 ?_
        have b1 : M 10 (5 * i + j) < 2147483648 := by have := hB.1 10 (5 * i + j) rfl; first | exact this | (simp [up2, m_cp, m_cpk] at this; exact this) | omega
        refine lv_istore (lv' := [(5, .int (nI (M 10 (5 * i + j)))), (0, .ref (na b i)), (1, .int (nI (c_hb n f M i j))), (2, .ref (na b i + 4)), (3, .int (nI n)), (4, .int (nI j))]) hx hb dX2_heldByEnough_23 hl (by decide) rfl (fun ls hl => ?_)
        refine lv_iload hx hb dX2_heldByEnough_25 (lv_at hl 0 rfl) ?_
        refine lv_iload_n hx hb dX2_heldByEnough_27 rfl (lv_at hl 2 rfl) ?_
        refine n_le (tgt := 47) hC dX2_heldByEnough_28 (by decide) (by omega) (by omega) (fun c28 => ?_) (fun c28 => ?_)
        · have c28n := Nat.not_lt.mpr c28
          refine n_iinc (n := 1) (k := 5) (lv' := [(4, .int (nI (j + 1))), (5, .int (nI (M 10 (5 * i + j)))), (0, .ref (na b i)), (1, .int (nI (c_hb n f M i j))), (2, .ref (na b i + 4)), (3, .int (nI n))]) hC dX2_heldByEnough_47 hl rfl (by decide) rfl (fun ls hl => ?_)
          refine lv_goto (tgt := 13) hx hb dX2_heldByEnough_50 (by decide) ?_
          have e0 : c_hb n f M i (j + 1) = c_hb n f M i j := by rw [c_hb, if_pos c28]
          exact ih (j + 1) _ _ _ (by omega) (by omega) hG (by rw [e0]; exact (lv_sub hl [2, 3, 4, 5, 0] rfl))
        · have c28n := Nat.not_le.mpr c28
          refine lv_aload_n hx hb dX2_heldByEnough_31 rfl (lv_at hl 1 rfl) ?_
          refine lv_iload hx hb dX2_heldByEnough_32 (lv_at hl 0 rfl) ?_
          refine q_callV (rest := []) (k_X2_countTold l D cA A hs hJ (i := i) (by omega) (M 10 (5 * i + j)) (by omega)) hC hG cF2 (g_kn hs (by omega)) 1 gX2_heldByEnough_X2_countTold rfl (by decide +kernel) ⟨by decide, by decide⟩ rfl hl.1 rfl (by simp [Value.category]) dX2_heldByEnough_34 ⟨Nat.le_of_ble_eq_true rfl, Nat.le_of_ble_eq_true rfl⟩ (fun v Y H locs hq hG => ?_)
          obtain ⟨rfl, rfl⟩ := hq
          have q34 := c_ct_le M i (M 10 (5 * i + j)) n
          refine lv_aload_n hx hb dX2_heldByEnough_37 rfl (lv_at hl 1 rfl) ?_
          refine q_gw (w := f) hC hG cF2 i2 (g_kn hs (by omega)) 2 (by decide) rfl (g_n2 hs (by omega)) k22 dX2_heldByEnough_38 ?_
          refine n_lt (tgt := 47) hC dX2_heldByEnough_41 (by decide) (by omega) (by omega) (fun c41 => ?_) (fun c41 => ?_)
          · have c41n := Nat.not_le.mpr c41
            refine n_iinc (n := 1) (k := 5) (lv' := [(4, .int (nI (j + 1))), (5, .int (nI (M 10 (5 * i + j)))), (0, .ref (na b i)), (1, .int (nI (c_hb n f M i j))), (2, .ref (na b i + 4)), (3, .int (nI n))]) hC dX2_heldByEnough_47 hl rfl (by decide) rfl (fun ls hl => ?_)
            refine lv_goto (tgt := 13) hx hb dX2_heldByEnough_50 (by decide) ?_
            have e0 : c_hb n f M i (j + 1) = c_hb n f M i j := by rw [c_hb, if_neg c28n, if_pos c41]
            exact ih (j + 1) _ _ _ (by omega) (by omega) hG (by rw [e0]; exact (lv_sub hl [2, 3, 4, 5, 0] rfl))
          · have c41n := Nat.not_lt.mpr c41
            refine lv_iload hx hb dX2_heldByEnough_44 (lv_at hl 0 rfl) ?_
            refine lv_istore_n (lv' := [(1, .int (nI (M 10 (5 * i + j)))), (5, .int (nI (M 10 (5 * i + j)))), (0, .ref (na b i)), (2, .ref (na b i + 4)), (3, .int (nI n)), (4, .int (nI j))]) hx hb dX2_heldByEnough_46 rfl hl (by decide) rfl (fun ls hl => ?_)
            refine n_iinc (n := 1) (k := 5) (lv' := [(4, .int (nI (j + 1))), (1, .int (nI (M 10 (5 * i + j)))), (5, .int (nI (M 10 (5 * i + j)))), (0, .ref (na b i)), (2, .ref (na b i + 4)), (3, .int (nI n))]) hC dX2_heldByEnough_47 hl rfl (by decide) rfl (fun ls hl => ?_)
            refine lv_goto (tgt := 13) hx hb dX2_heldByEnough_50 (by decide) ?_
            have e0 : c_hb n f M i (j + 1) = M 10 (5 * i + j) := by rw [c_hb, if_neg c28n, if_neg c41n]
            exact ih (j + 1) _ _ _ (by omega) (by omega) hG (by rw [e0]; exact (lv_sub hl [3, 1, 4, 5, 0] rfl))
  exact loop (n + 1) 0 _ _ _ (by omega) (by omega) hG (lv_sub hl [4, 3, 2, 1, 0] rfl)

theorem gre_le {a b c : Nat} (h1 : a ≤ c) (h2 : b ≤ c) : m_gre a b ≤ c := by unfold m_gre; split <;> assumption
theorem hea_no {n f : Nat} {M : MM} {i s v c : Nat} (h : c_leads n M i = 0) : m_hea n f M i s v c = (0, M) := by
  unfold m_hea
  unfold c_leads at h
  by_cases h1 : M 6 i = v
  · rw [if_pos h1]
    by_cases h2 : m_fst n M i = 0
    · rw [if_pos h2]
    · rw [if_neg h2]
      by_cases h3 : M 5 i = 0
      · rw [if_pos h3, if_neg h2] at h; exact absurd h (by decide)
      · rw [if_neg h3]
  · rw [if_neg h1]
theorem hea_yes {n f : Nat} {M : MM} {i s v c : Nat} (hB : bM M) (hf : 1 ≤ f) (h0 : M 10 (5 * i + i) = 0) (hs : s ≠ i) (hc : c < 2147483648) (h6 : M 6 i = v) (h : c_leads n M i ≠ 0) : m_hea n f M i s v c = (1, up2 (up2 M 10 (5 * i + s) (m_gre (M 10 (5 * i + s)) c)) 4 i (m_gre (M 4 i) (m_les (c_hb n f (up2 M 10 (5 * i + s) (m_gre (M 10 (5 * i + s)) c)) i n) (M 3 i)))) := by
  unfold c_leads at h
  have h5 : M 5 i = 0 := Classical.byContradiction fun z => h (if_neg z)
  rw [if_pos h5] at h
  have h2 : m_fst n M i ≠ 0 := fun z => h (if_pos z)
  have hg : m_gre (M 10 (5 * i + s)) c < 2147483648 := m_gre_le (hB.1 10 _ rfl) hc
  rw [m_hea, if_pos h6, if_neg h2, if_pos h5, hr_hb (bM_up hB 10 _ hg) hf (by rw [up2_ne _ _ (by omega)]; exact h0), up2_ne _ _ (show ¬ (4 = 10 ∧ i = 5 * i + s) by omega)]

abbrev rmX2_hearOk : Room := { frames := 3, cells := 0, slots := 0, locals := 61 }
set_option maxHeartbeats 4000000 in
set_option maxRecDepth 100000 in
theorem k_X2_hearOk (l : Launch) (D : va_G) (cA : Nat → ClassId) (A : Nat → Prop) {b n f : Nat} {X : Mem} {M : MM} {P : Nat → Nat} (hs : Sd b n f X M) (hJ : J M) {i : Nat} (hi : i < n) {q l0 : Nat} (hq : Lt b n X M l0 q) (hl0 : l0 < M 17 0) (h19 : M 19 l0 < n) (h19i : M 19 l0 ≠ i) (hI4 : M 10 (5 * i + i) = 0) : mt l D cA A yX2_hearOk wsX2_hearOk rmX2_hearOk [.ref (na b i), .ref q] (cM b n X M P) (fun w Y => w = some (.int (nI (m_hea n f M i (M 19 l0) (M 22 l0) (M 23 l0)).1)) ∧ ∃ X1, Y = cM b n X1 (m_hea n f M i (M 19 l0) (M 22 l0) (M 23 l0)).2 P ∧ Sd b n f X1 (m_hea n f M i (M 19 l0) (M 22 l0) (M 23 l0)).2 ∧ go b n X X1) := by
  refine q_start (by decide) rfl (Nat.le_of_ble_eq_true rfl) (fun p e s m args below meth c H locs hC hr hlk hnm hG ls hl => ?_)
  have hl : lv_has ls 2 [(0, .ref (na b i)), (1, .ref q)] := hl
  have hx := hC.1.1
  have hb := hC.1.2.1
  have hts := hC.1.2.2.2.2
  have i2 : ∀ w ∈ wsX20, w ∈ wsX2_hearOk := by decide +kernel
  have i0 : ∀ w ∈ wsX00, w ∈ wsX2_hearOk := by decide +kernel
  have hnf := g_nf hs
  have hB := hJ.1
  have hL := hJ.2.1
  have hE := hJ.2.2.1
  have hgo := go_rf b n X
  have hB0 := hJ.1
  have hJ0 := hJ
  have h17 := hB.2
  have hLi := hL i (by omega)
  have k33 := hts (.fieldLink RX2 33 "ViewStamps$Node" "log" "LViewStamps$Log;") (by decide +kernel)
  have k45 := hts (.fieldLink RX2 45 "ViewStamps$Node" "told" "[I") (by decide +kernel)
  have k51 := hts (.fieldLink RX2 51 "ViewStamps$Node" "view" "I") (by decide +kernel)
  have k62 := hts (.fieldLink RX2 62 "ViewStamps$Node" "sure" "I") (by decide +kernel)
  have k138 := hts (.fieldLink RX2 138 "ViewStamps$Letter" "view" "I") (by decide +kernel)
  have k169 := hts (.fieldLink RX2 169 "ViewStamps$Letter" "from" "I") (by decide +kernel)
  have k172 := hts (.fieldLink RX2 172 "ViewStamps$Letter" "count" "I") (by decide +kernel)
  refine lv_aload_n hx hb dX2_hearOk_0 rfl (lv_at hl 0 rfl) ?_
  refine q_callV (rest := []) (k_X2_leads l D cA A hs hJ (i := i) (by omega)) hC hG cF2 (g_kn hs (by omega)) 0 gX2_hearOk_X2_leads rfl (by decide +kernel) ⟨by decide, by decide⟩ rfl hl.1 rfl (by simp [Value.category]) dX2_hearOk_1 ⟨Nat.le_of_ble_eq_true rfl, Nat.le_of_ble_eq_true rfl⟩ (fun v Y H locs hq hG => ?_)
  obtain ⟨rfl, rfl⟩ := hq
  have q1 := c_leads_le n M i
  refine n_ifeq (tgt := 18) hC dX2_hearOk_4 (by decide) (by omega) (fun c4 => ?_) (fun c4 => ?_)
  · refine n_iconst hC 0 dX2_hearOk_18 ?_
    exact q_zret (v := 0) hC hG hr hlk (by first | decide | omega) (by rw [hea_no c4]; exact ⟨rfl, X, rfl, hs, hgo⟩) dX2_hearOk_19
  · refine lv_aload_n hx hb dX2_hearOk_7 rfl (lv_at hl 0 rfl) ?_
    refine q_gw (w := M 6 i) hC hG cF2 i2 (g_kn hs (by omega)) 10 (by decide) rfl (g_n10 (by omega)) k51 dX2_hearOk_8 ?_
    have b1 : M 6 i < 2147483648 := by have := hB.1 6 i rfl; first | exact this | (simp [up2, m_cp, m_cpk] at this; exact this) | omega
    refine lv_aload_n hx hb dX2_hearOk_11 rfl (lv_at hl 1 rfl) ?_
    refine q_gw (w := M 22 l0) hC hG cF0 i0 ((hgo.2.1 q (by rw [hq.1.1]; decide)).1.trans hq.1.1) 3 (by decide) rfl ((g_iv hs (Or.inl ((hgo.2.1 q (by rw [hq.1.1]; decide)).1.trans hq.1.1)) 3).trans (((hgo.2.2.2.2.1 q hq.1.1).2 3 (by decide)).trans hq.1.2.2.2.2.1)) k138 dX2_hearOk_12 ?_
    have bl3 := hB0.1 22 l0 rfl
    refine n_eq (tgt := 20) hC dX2_hearOk_15 (by decide) (by omega) (by omega) (fun c15 => ?_) (fun c15 => ?_)
    · refine lv_aload_n hx hb dX2_hearOk_20 rfl (lv_at hl 0 rfl) ?_
      refine q_getr hC hG cF2 i2 (g_kn hs (by omega)) 8 (by decide) rfl (hs.1.2.2.2.2.2.1 i (by omega)).2.1.2.2.2.2.2 k45 dX2_hearOk_21 ?_
      refine lv_aload_n hx hb dX2_hearOk_24 rfl (lv_at hl 1 rfl) ?_
      refine q_gw (w := M 19 l0) hC hG cF0 i0 ((hgo.2.1 q (by rw [hq.1.1]; decide)).1.trans hq.1.1) 0 (by decide) rfl ((g_iv hs (Or.inl ((hgo.2.1 q (by rw [hq.1.1]; decide)).1.trans hq.1.1)) 0).trans (((hgo.2.2.2.2.1 q hq.1.1).2 0 (by decide)).trans hq.1.2.1)) k169 dX2_hearOk_25 ?_
      have bl0 := hB0.1 19 l0 rfl
      refine lv_aload_n hx hb dX2_hearOk_28 rfl (lv_at hl 0 rfl) ?_
      refine q_getr hC hG cF2 i2 (g_kn hs (by omega)) 8 (by decide) rfl (hs.1.2.2.2.2.2.1 i (by omega)).2.1.2.2.2.2.2 k45 dX2_hearOk_29 ?_
      refine lv_aload_n hx hb dX2_hearOk_32 rfl (lv_at hl 1 rfl) ?_
      refine q_gw (w := M 19 l0) hC hG cF0 i0 ((hgo.2.1 q (by rw [hq.1.1]; decide)).1.trans hq.1.1) 0 (by decide) rfl ((g_iv hs (Or.inl ((hgo.2.1 q (by rw [hq.1.1]; decide)).1.trans hq.1.1)) 0).trans (((hgo.2.2.2.2.1 q hq.1.1).2 0 (by decide)).trans hq.1.2.1)) k169 dX2_hearOk_33 ?_
      have bl0 := hB0.1 19 l0 rfl
      refine q_iw (w := M 10 (5 * i + (M 19 l0))) hC hG (show kd X (na b i + 4) = 7 ∧ ln X (na b i + 4) = n from ⟨(hs.1.2.2.2.2.2.1 i (by omega)).2.2.2.2.2.2.2.2.1, (hs.1.2.2.2.2.2.1 i (by omega)).2.2.2.2.2.2.2.2.2⟩).1 (show kd X (na b i + 4) = 7 ∧ ln X (na b i + 4) = n from ⟨(hs.1.2.2.2.2.2.1 i (by omega)).2.2.2.2.2.2.2.2.1, (hs.1.2.2.2.2.2.1 i (by omega)).2.2.2.2.2.2.2.2.2⟩).2 (by omega) (by omega) (cM_t (by omega) (by omega) _ _ _) dX2_hearOk_36 ?_
      have b2 : M 10 (5 * i + (M 19 l0)) < 2147483648 := by have := hB.1 10 (5 * i + (M 19 l0)) rfl; first | exact this | (simp [up2, m_cp, m_cpk] at this; exact this) | omega
      refine lv_aload_n hx hb dX2_hearOk_37 rfl (lv_at hl 1 rfl) ?_
      refine q_gw (w := M 23 l0) hC hG cF0 i0 ((hgo.2.1 q (by rw [hq.1.1]; decide)).1.trans hq.1.1) 5 (by decide) rfl ((g_iv hs (Or.inl ((hgo.2.1 q (by rw [hq.1.1]; decide)).1.trans hq.1.1)) 5).trans (((hgo.2.2.2.2.1 q hq.1.1).2 5 (by decide)).trans hq.1.2.2.2.2.2.1)) k172 dX2_hearOk_38 ?_
      have bl5 := hB0.1 23 l0 rfl
      refine n_max hC hl.1 (hts (.methodLink RX2 153 Lib.Math.max.name) (by decide +kernel)) (hts (.static Lib.Math.max.name) (by decide +kernel)) (hts (.initialized "java/lang/Math") (by decide +kernel)) (hts (.code Lib.Math.max.name Lib.Math.max.code 2 (some .int)) (by decide +kernel)) (by decide) (by simp [Value.category]) (by first | exact Nat.zero_le _ | decide | (simp only [rmX2_hearOk]; omega)) (by first | exact Nat.zero_le _ | decide | (simp only [rmX2_hearOk]; omega)) (by omega) (by omega) dX2_hearOk_41 ?_
      have q41 : m_gre (M 10 (5 * i + (M 19 l0))) (M 23 l0) < 2147483648 := m_gre_le (by omega) (by omega)
      refine q_iast hC hG (n := n) (show kd X (na b i + 4) = 7 ∧ ln X (na b i + 4) = n from ⟨(hs.1.2.2.2.2.2.1 i (by omega)).2.2.2.2.2.2.2.2.1, (hs.1.2.2.2.2.2.1 i (by omega)).2.2.2.2.2.2.2.2.2⟩).1 (show kd X (na b i + 4) = 7 ∧ ln X (na b i + 4) = n from ⟨(hs.1.2.2.2.2.2.1 i (by omega)).2.2.2.2.2.2.2.2.1, (hs.1.2.2.2.2.2.1 i (by omega)).2.2.2.2.2.2.2.2.2⟩).2 (by omega) (by omega) dX2_hearOk_44 (fun H locs hG => ?_)
      rw [cM_told (by omega) (by omega) (by omega)] at hG
      have hs := Sd_to hs (dq_up (k := 10) (y := 5 * i + (M 19 l0)) (v := m_gre (M 10 (5 * i + (M 19 l0))) (M 23 l0)) (by omega))
      have hJ := J_up hJ 10 (5 * i + (M 19 l0)) (v := m_gre (M 10 (5 * i + (M 19 l0))) (M 23 l0)) (by decide) (Or.inl (by omega))
      have hB := hJ.1
      have hL := hJ.2.1
      have hE := hJ.2.2.1
      refine lv_aload_n hx hb dX2_hearOk_45 rfl (lv_at hl 0 rfl) ?_
      refine lv_aload_n hx hb dX2_hearOk_46 rfl (lv_at hl 0 rfl) ?_
      refine q_gw (w := M 4 i) hC hG cF2 i2 (g_kn hs (by omega)) 11 (by decide) rfl ((g_n11 (by omega)).trans (by simp [up2, m_cp, m_cpk])) k62 dX2_hearOk_47 ?_
      have b3 : M 4 i < 2147483648 := by have := hB.1 4 i rfl; first | exact this | (simp [up2, m_cp, m_cpk] at this; exact this) | omega
      refine lv_aload_n hx hb dX2_hearOk_50 rfl (lv_at hl 0 rfl) ?_
      refine q_callV (rest := [.int (nI (M 4 i)), .ref (na b i)]) (k_X2_heldByEnough l D cA A hs hJ (i := i) (by omega)) hC hG cF2 (g_kn hs (by omega)) 0 gX2_hearOk_X2_heldByEnough rfl (by decide +kernel) ⟨by decide, by decide⟩ rfl hl.1 rfl (by simp [Value.category]) dX2_hearOk_51 ⟨Nat.le_of_ble_eq_true rfl, Nat.le_of_ble_eq_true rfl⟩ (fun v Y H locs hq hG => ?_)
      obtain ⟨rfl, rfl⟩ := hq
      have q51 := c_hb_lt (n := n) (f := f) hJ.1 i n
      refine lv_aload_n hx hb dX2_hearOk_54 rfl (lv_at hl 0 rfl) ?_
      obtain ⟨lgn4, hlgn4a, hlgn4⟩ := hs.2.2.2.1 i (by omega)
      have hLlgn4 := hL i (by omega)
      refine q_getr hC hG cF2 i2 (g_kn hs (by omega)) 12 (by decide) rfl hlgn4a k33 dX2_hearOk_55 ?_
      refine q_callV (rest := [.int (nI (c_hb n f (up2 M 10 (5 * i + (M 19 l0)) (m_gre (M 10 (5 * i + (M 19 l0))) (M 23 l0))) i n)), .int (nI (M 4 i)), .ref (na b i)]) (k_X1_size l D cA A hs hlgn4 hLlgn4.1) hC hG cF1 hlgn4.1 0 gX2_hearOk_X1_size rfl (by decide +kernel) ⟨by decide, by decide⟩ rfl hl.1 rfl (by simp [Value.category]) dX2_hearOk_58 ⟨Nat.le_of_ble_eq_true rfl, Nat.le_of_ble_eq_true rfl⟩ (fun v Y H locs hq hG => ?_)
      obtain ⟨rfl, rfl⟩ := hq
      refine n_min hC hl.1 (hts (.methodLink RX2 159 Lib.Math.min.name) (by decide +kernel)) (hts (.static Lib.Math.min.name) (by decide +kernel)) (hts (.initialized "java/lang/Math") (by decide +kernel)) (hts (.code Lib.Math.min.name Lib.Math.min.code 2 (some .int)) (by decide +kernel)) (by decide) (by simp [Value.category]) (by first | exact Nat.zero_le _ | decide | (simp only [rmX2_hearOk]; omega)) (by first | exact Nat.zero_le _ | decide | (simp only [rmX2_hearOk]; omega)) (by omega) (by omega) dX2_hearOk_61 ?_
      have q61 := m_les_le (c_hb n f (up2 M 10 (5 * i + (M 19 l0)) (m_gre (M 10 (5 * i + (M 19 l0))) (M 23 l0))) i n) ((up2 M 10 (5 * i + (M 19 l0)) (m_gre (M 10 (5 * i + (M 19 l0))) (M 23 l0))) 3 i)
      refine n_max hC hl.1 (hts (.methodLink RX2 153 Lib.Math.max.name) (by decide +kernel)) (hts (.static Lib.Math.max.name) (by decide +kernel)) (hts (.initialized "java/lang/Math") (by decide +kernel)) (hts (.code Lib.Math.max.name Lib.Math.max.code 2 (some .int)) (by decide +kernel)) (by decide) (by simp [Value.category]) (by first | exact Nat.zero_le _ | decide | (simp only [rmX2_hearOk]; omega)) (by first | exact Nat.zero_le _ | decide | (simp only [rmX2_hearOk]; omega)) (by omega) (by omega) dX2_hearOk_64 ?_
      have q64 : m_gre (M 4 i) (m_les (c_hb n f (up2 M 10 (5 * i + (M 19 l0)) (m_gre (M 10 (5 * i + (M 19 l0))) (M 23 l0))) i n) ((up2 M 10 (5 * i + (M 19 l0)) (m_gre (M 10 (5 * i + (M 19 l0))) (M 23 l0))) 3 i)) < 2147483648 := m_gre_le (by omega) (by omega)
      refine q_puti hC hG cF2 i2 (g_kn hs (by omega)) 11 (by decide) rfl k62 (Or.inl rfl) rfl (by first | rfl | decide) dX2_hearOk_67 (fun H locs hG => ?_)
      rw [cM_n11 (by omega)] at hG
      have hs := Sd_to hs (dq_up (k := 4) (y := i) (v := m_gre (M 4 i) (m_les (c_hb n f (up2 M 10 (5 * i + (M 19 l0)) (m_gre (M 10 (5 * i + (M 19 l0))) (M 23 l0))) i n) ((up2 M 10 (5 * i + (M 19 l0)) (m_gre (M 10 (5 * i + (M 19 l0))) (M 23 l0))) 3 i))) (by omega))
      have hJ := J_sure hJ i (v := m_gre (M 4 i) (m_les (c_hb n f (up2 M 10 (5 * i + (M 19 l0)) (m_gre (M 10 (5 * i + (M 19 l0))) (M 23 l0))) i n) ((up2 M 10 (5 * i + (M 19 l0)) (m_gre (M 10 (5 * i + (M 19 l0))) (M 23 l0))) 3 i))) (gre_le (by rw [up2_ne _ _ (by omega)]; exact hLi.2) (m_les_le _ _).2)
      have hB := hJ.1
      have hL := hJ.2.1
      have hE := hJ.2.2.1
      refine n_iconst hC 1 dX2_hearOk_70 ?_
      exact q_zret (v := 1) hC hG hr hlk (by first | decide | omega) (by have e : m_hea n f M i (M 19 l0) (M 22 l0) (M 23 l0) = (1, up2 (up2 M 10 (5 * i + (M 19 l0)) (m_gre (M 10 (5 * i + (M 19 l0))) (M 23 l0))) 4 i (m_gre (M 4 i) (m_les (c_hb n f (up2 M 10 (5 * i + (M 19 l0)) (m_gre (M 10 (5 * i + (M 19 l0))) (M 23 l0))) i n) ((up2 M 10 (5 * i + (M 19 l0)) (m_gre (M 10 (5 * i + (M 19 l0))) (M 23 l0))) 3 i)))) := hea_yes hB0 (by omega) hI4 (by omega) (by omega) c15 c4; rw [e]; exact ⟨rfl, X, rfl, hs, hgo⟩) dX2_hearOk_71
    · refine n_iconst hC 0 dX2_hearOk_18 ?_
      exact q_zret (v := 0) hC hG hr hlk (by first | decide | omega) (by have e : m_hea n f M i (M 19 l0) (M 22 l0) (M 23 l0) = (0, M) := (by rw [m_hea, if_neg c15]); rw [e]; exact ⟨rfl, X, rfl, hs, hgo⟩) dX2_hearOk_19
