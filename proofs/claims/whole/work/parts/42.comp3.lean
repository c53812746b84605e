abbrev rmX2_write : Room := { frames := 2, cells := 1, slots := 8, locals := 47 }
set_option maxHeartbeats 4000000 in
set_option maxRecDepth 100000 in
theorem k_X2_write (l : Launch) (D : va_G) (cA : Nat → ClassId) (A : Nat → Prop) {b n f : Nat} {X : Mem} {M : MM} {P : Nat → Nat} (hs : Sd b n f X M) (hJ : J M) {i : Nat} (hi : i < n) (j k c0 : Nat) (hj : j < 2147483648) (hk : k < 2147483648) (hc0 : c0 < 2147483648) : mt l D cA A yX2_write wsX2_write rmX2_write [.ref (na b i), .int (nI j), .int (nI k), .int (nI c0)] (cM b n X M P) (fun v Y => ∃ X1 q, v = some (.ref q) ∧ Y = cM b n X1 M P ∧ Sd b n f X1 M ∧ go b n X X1 ∧ Lw b n X1 M q i j k (M 6 i) c0 ∧ (∀ l, l < M 17 0 → rv X1 (b + 4) l ≠ some q) ∧ nx X ≤ q) := by
  refine q_start (by decide) rfl (Nat.le_of_ble_eq_true rfl) (fun p e s m args below meth c H locs hC hr hlk hnm hG ls hl => ?_)
  have hl : lv_has ls 5 [(0, .ref (na b i)), (1, .int (nI j)), (2, .int (nI k)), (3, .int (nI c0))] := hl
  have hx := hC.1.1
  have hb := hC.1.2.1
  have hts := hC.1.2.2.2.2
  have i2 : ∀ w ∈ wsX20, w ∈ wsX2_write := by decide +kernel
  have i0 : ∀ w ∈ wsX00, w ∈ wsX2_write := by decide +kernel
  have hnf := g_nf hs
  have hB := hJ.1
  have hL := hJ.2.1
  have hE := hJ.2.2.1
  have k15 := hts (.fieldLink RX2 15 "ViewStamps$Node" "number" "I") (by decide +kernel)
  have k29 := hts (.fieldLink RX2 29 "ViewStamps$Node" "empty" "LViewStamps$Log;") (by decide +kernel)
  have k33 := hts (.fieldLink RX2 33 "ViewStamps$Node" "log" "LViewStamps$Log;") (by decide +kernel)
  have k51 := hts (.fieldLink RX2 51 "ViewStamps$Node" "view" "I") (by decide +kernel)
  have k62 := hts (.fieldLink RX2 62 "ViewStamps$Node" "sure" "I") (by decide +kernel)
  refine lv_iload_n hx hb dX2_write_0 rfl (lv_at hl 2 rfl) ?_
  refine n_iconst hC 1 dX2_write_1 ?_
  refine n_eq (tgt := 21) hC dX2_write_2 (by decide) (by omega) (by omega) (fun c2 => ?_) (fun c2 => ?_)
  · refine n_iconst hC 1 dX2_write_21 ?_
    refine lv_goto (tgt := 26) hx hb dX2_write_22 (by decide) ?_
    refine lv_istore (lv' := [(4, .int (nI 1)), (0, .ref (na b i)), (1, .int (nI j)), (2, .int (nI k)), (3, .int (nI c0))]) hx hb dX2_write_26 hl (by decide) rfl (fun ls hl => ?_)
    have hlt := gw_lt hG
    have hhe := hs.2.2.2.2.2.2.2.1
    have hs0 := hs
    obtain ⟨lg, hlga0, hlg⟩ := hs.2.2.2.1 i hi
    refine q_new hC hG cF0 i0 (hts (.classLink RX2 36 RX0) (by decide +kernel)) (hts (.instantiable RX0 8) (by decide +kernel)) (hts (.initialized RX0) (by decide +kernel)) (by decide) (by decide) dX2_write_28 (fun H hG => ?_)
    rw [cM_nw _ _ _ _ _ hhe] at hG
    have hfr := fr_nw (fr_rf X) 1 0
    have hs := Sd_fr hs hfr hlt
    have hlga : rv (nw X 1 0) (na b i) 12 = some lg := by rw [(hfr.2 (na b i) (hlt _ (by rw [show kd (cM b n X M P) (na b i) = 3 from g_kn hs0 hi]; decide))).2.2.2]; exact hlga0
    refine lv_dup hx hb dX2_write_31 rfl ?_
    refine lv_aload_n hx hb dX2_write_32 rfl (lv_at hl 1 rfl) ?_
    refine q_gw (w := i) hC hG cF2 i2 (g_kn hs (by omega)) 0 (by decide) rfl (g_n0 hs (by omega)) k15 dX2_write_33 ?_
    refine lv_iload_n hx hb dX2_write_36 rfl (lv_at hl 2 rfl) ?_
    refine lv_iload_n hx hb dX2_write_37 rfl (lv_at hl 3 rfl) ?_
    refine lv_aload_n hx hb dX2_write_38 rfl (lv_at hl 1 rfl) ?_
    refine q_gw (w := M 6 i) hC hG cF2 i2 (g_kn hs (by omega)) 10 (by decide) rfl (g_n10 (by omega)) k51 dX2_write_39 ?_
    have b1 : M 6 i < 2147483648 := by have := hB.1 6 i rfl; first | exact this | (simp [up2, m_cp, m_cpk] at this; exact this) | omega
    refine lv_iload hx hb dX2_write_42 (lv_at hl 0 rfl) ?_
    refine n_ifeq (tgt := 54) hC dX2_write_44 (by decide) (by omega) (fun c44 => ?_) (fun c44 => ?_)
    · exact absurd c44 (by decide)
    · refine lv_aload_n hx hb dX2_write_47 rfl (lv_at hl 1 rfl) ?_
      refine q_getr hC hG cF2 i2 (g_kn hs (by omega)) 12 (by decide) rfl hlga k33 dX2_write_48 ?_
      refine lv_goto (tgt := 58) hx hb dX2_write_51 (by decide) ?_
      refine lv_iload hx hb dX2_write_58 (lv_at hl 0 rfl) ?_
      refine n_ifeq (tgt := 70) hC dX2_write_60 (by decide) (by omega) (fun c60 => ?_) (fun c60 => ?_)
      · exact absurd c60 (by decide)
      · refine lv_aload_n hx hb dX2_write_63 rfl (lv_at hl 1 rfl) ?_
        refine q_gw (w := M 4 i) hC hG cF2 i2 (g_kn hs (by omega)) 11 (by decide) rfl (g_n11 (by omega)) k62 dX2_write_64 ?_
        have b2 : M 4 i < 2147483648 := by have := hB.1 4 i rfl; first | exact this | (simp [up2, m_cp, m_cpk] at this; exact this) | omega
        refine lv_goto (tgt := 71) hx hb dX2_write_67 (by decide) ?_
        refine lv_iload_n hx hb dX2_write_71 rfl (lv_at hl 4 rfl) ?_
        refine q_callI (rest := [.ref (nx X)]) (k_X0_init l D cA A (X := cM b n (nw X 1 0) M P) (nx X) i j k (M 6 i) lg (M 4 i) c0 (show kd (nw X 1 0) (nx X) = 1 from va_up_self _ _ _)) hC hG 7 gX2_write_X0_init rfl (hts (.initialized yX0_init.cls) (by decide +kernel)) (hts (.methodLink RX2 197 yX0_init) (by decide +kernel)) (hts (.instanceMethod yX0_init) (by decide +kernel)) rfl (by decide +kernel) ⟨by decide, by decide⟩ rfl hl.1 rfl (by simp [Value.category]) dX2_write_72 ⟨Nat.le_of_ble_eq_true rfl, Nat.le_of_ble_eq_true rfl⟩ (fun v Y H locs hq hG => ?_)
        obtain ⟨rfl, rfl⟩ := hq
        rw [lw_cM _ _ _ hhe] at hG
        exact q_aret (v := (some (nx X))) hC hG hr (by first | exact Or.inl ⟨_, rfl⟩ | exact Or.inr ⟨_, rfl⟩) hlk (by obtain ⟨e1, e2, e3, e4, e5, e6, e7, e8, e9⟩ := lw_at X i j k (M 6 i) lg (M 4 i) c0; have ff := lw_fr X i j k (M 6 i) lg (M 4 i) c0; have gg : go b n X (lw X i j k (M 6 i) lg (M 4 i) c0) := go_fr ff hlt hhe; exact ⟨lw X i j k (M 6 i) lg (M 4 i) c0, nx X, rfl, rfl, Sd_fr hs0 ff hlt, gg, ⟨⟨e1, e2, e3, e4, e5, e7, e8⟩, lg, e9, fun _ => ⟨e6, hlg.go gg⟩, fun z => absurd z (by simp only [m_hl, if_pos c2, if_neg c44, if_neg c60]; decide)⟩, fun l hl0 z => by rw [(ff.2 (b + 4) (by unfold he at hhe; omega)).2.2.2] at z; obtain ⟨q2, w1, w2⟩ := hs0.2.2.1 l hl0; rw [w1] at z; have := hlt q2 (by rw [show kd (cM b n X M P) q2 = 1 from w2.1.1]; decide); cases z; exact Nat.lt_irrefl _ this, Nat.le_refl _⟩) dX2_write_75 (h1 := by decide) (h2 := by decide)
  · refine lv_iload_n hx hb dX2_write_5 rfl (lv_at hl 2 rfl) ?_
    refine n_iconst hC 4 dX2_write_6 ?_
    refine n_eq (tgt := 21) hC dX2_write_7 (by decide) (by omega) (by omega) (fun c7 => ?_) (fun c7 => ?_)
    · refine n_iconst hC 1 dX2_write_21 ?_
      refine lv_goto (tgt := 26) hx hb dX2_write_22 (by decide) ?_
      refine lv_istore (lv' := [(4, .int (nI 1)), (0, .ref (na b i)), (1, .int (nI j)), (2, .int (nI k)), (3, .int (nI c0))]) hx hb dX2_write_26 hl (by decide) rfl (fun ls hl => ?_)
      have hlt := gw_lt hG
      have hhe := hs.2.2.2.2.2.2.2.1
      have hs0 := hs
      obtain ⟨lg, hlga0, hlg⟩ := hs.2.2.2.1 i hi
      refine q_new hC hG cF0 i0 (hts (.classLink RX2 36 RX0) (by decide +kernel)) (hts (.instantiable RX0 8) (by decide +kernel)) (hts (.initialized RX0) (by decide +kernel)) (by decide) (by decide) dX2_write_28 (fun H hG => ?_)
      rw [cM_nw _ _ _ _ _ hhe] at hG
      have hfr := fr_nw (fr_rf X) 1 0
      have hs := Sd_fr hs hfr hlt
      have hlga : rv (nw X 1 0) (na b i) 12 = some lg := by rw [(hfr.2 (na b i) (hlt _ (by rw [show kd (cM b n X M P) (na b i) = 3 from g_kn hs0 hi]; decide))).2.2.2]; exact hlga0
      refine lv_dup hx hb dX2_write_31 rfl ?_
      refine lv_aload_n hx hb dX2_write_32 rfl (lv_at hl 1 rfl) ?_
      refine q_gw (w := i) hC hG cF2 i2 (g_kn hs (by omega)) 0 (by decide) rfl (g_n0 hs (by omega)) k15 dX2_write_33 ?_
      refine lv_iload_n hx hb dX2_write_36 rfl (lv_at hl 2 rfl) ?_
      refine lv_iload_n hx hb dX2_write_37 rfl (lv_at hl 3 rfl) ?_
      refine lv_aload_n hx hb dX2_write_38 rfl (lv_at hl 1 rfl) ?_
      refine q_gw (w := M 6 i) hC hG cF2 i2 (g_kn hs (by omega)) 10 (by decide) rfl (g_n10 (by omega)) k51 dX2_write_39 ?_
      have b3 : M 6 i < 2147483648 := by have := hB.1 6 i rfl; first | exact this | (simp [up2, m_cp, m_cpk] at this; exact this) | omega
      refine lv_iload hx hb dX2_write_42 (lv_at hl 0 rfl) ?_
      refine n_ifeq (tgt := 54) hC dX2_write_44 (by decide) (by omega) (fun c44 => ?_) (fun c44 => ?_)
      · exact absurd c44 (by decide)
      · refine lv_aload_n hx hb dX2_write_47 rfl (lv_at hl 1 rfl) ?_
        refine q_getr hC hG cF2 i2 (g_kn hs (by omega)) 12 (by decide) rfl hlga k33 dX2_write_48 ?_
        refine lv_goto (tgt := 58) hx hb dX2_write_51 (by decide) ?_
        refine lv_iload hx hb dX2_write_58 (lv_at hl 0 rfl) ?_
        refine n_ifeq (tgt := 70) hC dX2_write_60 (by decide) (by omega) (fun c60 => ?_) (fun c60 => ?_)
        · exact absurd c60 (by decide)
        · refine lv_aload_n hx hb dX2_write_63 rfl (lv_at hl 1 rfl) ?_
          refine q_gw (w := M 4 i) hC hG cF2 i2 (g_kn hs (by omega)) 11 (by decide) rfl (g_n11 (by omega)) k62 dX2_write_64 ?_
          have b4 : M 4 i < 2147483648 := by have := hB.1 4 i rfl; first | exact this | (simp [up2, m_cp, m_cpk] at this; exact this) | omega
          refine lv_goto (tgt := 71) hx hb dX2_write_67 (by decide) ?_
          refine lv_iload_n hx hb dX2_write_71 rfl (lv_at hl 4 rfl) ?_
          refine q_callI (rest := [.ref (nx X)]) (k_X0_init l D cA A (X := cM b n (nw X 1 0) M P) (nx X) i j k (M 6 i) lg (M 4 i) c0 (show kd (nw X 1 0) (nx X) = 1 from va_up_self _ _ _)) hC hG 7 gX2_write_X0_init rfl (hts (.initialized yX0_init.cls) (by decide +kernel)) (hts (.methodLink RX2 197 yX0_init) (by decide +kernel)) (hts (.instanceMethod yX0_init) (by decide +kernel)) rfl (by decide +kernel) ⟨by decide, by decide⟩ rfl hl.1 rfl (by simp [Value.category]) dX2_write_72 ⟨Nat.le_of_ble_eq_true rfl, Nat.le_of_ble_eq_true rfl⟩ (fun v Y H locs hq hG => ?_)
          obtain ⟨rfl, rfl⟩ := hq
          rw [lw_cM _ _ _ hhe] at hG
          exact q_aret (v := (some (nx X))) hC hG hr (by first | exact Or.inl ⟨_, rfl⟩ | exact Or.inr ⟨_, rfl⟩) hlk (by obtain ⟨e1, e2, e3, e4, e5, e6, e7, e8, e9⟩ := lw_at X i j k (M 6 i) lg (M 4 i) c0; have ff := lw_fr X i j k (M 6 i) lg (M 4 i) c0; have gg : go b n X (lw X i j k (M 6 i) lg (M 4 i) c0) := go_fr ff hlt hhe; exact ⟨lw X i j k (M 6 i) lg (M 4 i) c0, nx X, rfl, rfl, Sd_fr hs0 ff hlt, gg, ⟨⟨e1, e2, e3, e4, e5, e7, e8⟩, lg, e9, fun _ => ⟨e6, hlg.go gg⟩, fun z => absurd z (by simp only [m_hl, if_neg c2, if_pos c7, if_neg c44, if_neg c60]; decide)⟩, fun l hl0 z => by rw [(ff.2 (b + 4) (by unfold he at hhe; omega)).2.2.2] at z; obtain ⟨q2, w1, w2⟩ := hs0.2.2.1 l hl0; rw [w1] at z; have := hlt q2 (by rw [show kd (cM b n X M P) q2 = 1 from w2.1.1]; decide); cases z; exact Nat.lt_irrefl _ this, Nat.le_refl _⟩) dX2_write_75 (h1 := by decide) (h2 := by decide)
    · refine lv_iload_n hx hb dX2_write_10 rfl (lv_at hl 2 rfl) ?_
      refine n_iconst hC 5 dX2_write_11 ?_
      refine n_eq (tgt := 21) hC dX2_write_12 (by decide) (by omega) (by omega) (fun c12 => ?_) (fun c12 => ?_)
      · refine n_iconst hC 1 dX2_write_21 ?_
        refine lv_goto (tgt := 26) hx hb dX2_write_22 (by decide) ?_
        refine lv_istore (lv' := [(4, .int (nI 1)), (0, .ref (na b i)), (1, .int (nI j)), (2, .int (nI k)), (3, .int (nI c0))]) hx hb dX2_write_26 hl (by decide) rfl (fun ls hl => ?_)
        have hlt := gw_lt hG
        have hhe := hs.2.2.2.2.2.2.2.1
        have hs0 := hs
        obtain ⟨lg, hlga0, hlg⟩ := hs.2.2.2.1 i hi
        refine q_new hC hG cF0 i0 (hts (.classLink RX2 36 RX0) (by decide +kernel)) (hts (.instantiable RX0 8) (by decide +kernel)) (hts (.initialized RX0) (by decide +kernel)) (by decide) (by decide) dX2_write_28 (fun H hG => ?_)
        rw [cM_nw _ _ _ _ _ hhe] at hG
        have hfr := fr_nw (fr_rf X) 1 0
        have hs := Sd_fr hs hfr hlt
        have hlga : rv (nw X 1 0) (na b i) 12 = some lg := by rw [(hfr.2 (na b i) (hlt _ (by rw [show kd (cM b n X M P) (na b i) = 3 from g_kn hs0 hi]; decide))).2.2.2]; exact hlga0
        refine lv_dup hx hb dX2_write_31 rfl ?_
        refine lv_aload_n hx hb dX2_write_32 rfl (lv_at hl 1 rfl) ?_
        refine q_gw (w := i) hC hG cF2 i2 (g_kn hs (by omega)) 0 (by decide) rfl (g_n0 hs (by omega)) k15 dX2_write_33 ?_
        refine lv_iload_n hx hb dX2_write_36 rfl (lv_at hl 2 rfl) ?_
        refine lv_iload_n hx hb dX2_write_37 rfl (lv_at hl 3 rfl) ?_
        refine lv_aload_n hx hb dX2_write_38 rfl (lv_at hl 1 rfl) ?_
        refine q_gw (w := M 6 i) hC hG cF2 i2 (g_kn hs (by omega)) 10 (by decide) rfl (g_n10 (by omega)) k51 dX2_write_39 ?_
        have b5 : M 6 i < 2147483648 := by have := hB.1 6 i rfl; first | exact this | (simp [up2, m_cp, m_cpk] at this; exact this) | omega
        refine lv_iload hx hb dX2_write_42 (lv_at hl 0 rfl) ?_
        refine n_ifeq (tgt := 54) hC dX2_write_44 (by decide) (by omega) (fun c44 => ?_) (fun c44 => ?_)
        · exact absurd c44 (by decide)
        · refine lv_aload_n hx hb dX2_write_47 rfl (lv_at hl 1 rfl) ?_
          refine q_getr hC hG cF2 i2 (g_kn hs (by omega)) 12 (by decide) rfl hlga k33 dX2_write_48 ?_
          refine lv_goto (tgt := 58) hx hb dX2_write_51 (by decide) ?_
          refine lv_iload hx hb dX2_write_58 (lv_at hl 0 rfl) ?_
          refine n_ifeq (tgt := 70) hC dX2_write_60 (by decide) (by omega) (fun c60 => ?_) (fun c60 => ?_)
          · exact absurd c60 (by decide)
          · refine lv_aload_n hx hb dX2_write_63 rfl (lv_at hl 1 rfl) ?_
            refine q_gw (w := M 4 i) hC hG cF2 i2 (g_kn hs (by omega)) 11 (by decide) rfl (g_n11 (by omega)) k62 dX2_write_64 ?_
            have b6 : M 4 i < 2147483648 := by have := hB.1 4 i rfl; first | exact this | (simp [up2, m_cp, m_cpk] at this; exact this) | omega
            refine lv_goto (tgt := 71) hx hb dX2_write_67 (by decide) ?_
            refine lv_iload_n hx hb dX2_write_71 rfl (lv_at hl 4 rfl) ?_
            refine q_callI (rest := [.ref (nx X)]) (k_X0_init l D cA A (X := cM b n (nw X 1 0) M P) (nx X) i j k (M 6 i) lg (M 4 i) c0 (show kd (nw X 1 0) (nx X) = 1 from va_up_self _ _ _)) hC hG 7 gX2_write_X0_init rfl (hts (.initialized yX0_init.cls) (by decide +kernel)) (hts (.methodLink RX2 197 yX0_init) (by decide +kernel)) (hts (.instanceMethod yX0_init) (by decide +kernel)) rfl (by decide +kernel) ⟨by decide, by decide⟩ rfl hl.1 rfl (by simp [Value.category]) dX2_write_72 ⟨Nat.le_of_ble_eq_true rfl, Nat.le_of_ble_eq_true rfl⟩ (fun v Y H locs hq hG => ?_)
            obtain ⟨rfl, rfl⟩ := hq
            rw [lw_cM _ _ _ hhe] at hG
            exact q_aret (v := (some (nx X))) hC hG hr (by first | exact Or.inl ⟨_, rfl⟩ | exact Or.inr ⟨_, rfl⟩) hlk (by obtain ⟨e1, e2, e3, e4, e5, e6, e7, e8, e9⟩ := lw_at X i j k (M 6 i) lg (M 4 i) c0; have ff := lw_fr X i j k (M 6 i) lg (M 4 i) c0; have gg : go b n X (lw X i j k (M 6 i) lg (M 4 i) c0) := go_fr ff hlt hhe; exact ⟨lw X i j k (M 6 i) lg (M 4 i) c0, nx X, rfl, rfl, Sd_fr hs0 ff hlt, gg, ⟨⟨e1, e2, e3, e4, e5, e7, e8⟩, lg, e9, fun _ => ⟨e6, hlg.go gg⟩, fun z => absurd z (by simp only [m_hl, if_neg c2, if_neg c7, if_pos c12, if_neg c44, if_neg c60]; decide)⟩, fun l hl0 z => by rw [(ff.2 (b + 4) (by unfold he at hhe; omega)).2.2.2] at z; obtain ⟨q2, w1, w2⟩ := hs0.2.2.1 l hl0; rw [w1] at z; have := hlt q2 (by rw [show kd (cM b n X M P) q2 = 1 from w2.1.1]; decide); cases z; exact Nat.lt_irrefl _ this, Nat.le_refl _⟩) dX2_write_75 (h1 := by decide) (h2 := by decide)
      · refine lv_iload_n hx hb dX2_write_15 rfl (lv_at hl 2 rfl) ?_
        refine n_bipush hC 7 (by decide) dX2_write_16 ?_
        refine n_ne (tgt := 25) hC dX2_write_18 (by decide) (by omega) (by omega) (fun c18 => ?_) (fun c18 => ?_)
        · refine n_iconst hC 0 dX2_write_25 ?_
          refine lv_istore (lv' := [(4, .int (nI 0)), (0, .ref (na b i)), (1, .int (nI j)), (2, .int (nI k)), (3, .int (nI c0))]) hx hb dX2_write_26 hl (by decide) rfl (fun ls hl => ?_)
          have hlt := gw_lt hG
          have hhe := hs.2.2.2.2.2.2.2.1
          have hs0 := hs
          obtain ⟨lg, hlga0, hlg⟩ := hs.2.2.2.1 i hi
          refine q_new hC hG cF0 i0 (hts (.classLink RX2 36 RX0) (by decide +kernel)) (hts (.instantiable RX0 8) (by decide +kernel)) (hts (.initialized RX0) (by decide +kernel)) (by decide) (by decide) dX2_write_28 (fun H hG => ?_)
          rw [cM_nw _ _ _ _ _ hhe] at hG
          have hfr := fr_nw (fr_rf X) 1 0
          have hs := Sd_fr hs hfr hlt
          have hlga : rv (nw X 1 0) (na b i) 12 = some lg := by rw [(hfr.2 (na b i) (hlt _ (by rw [show kd (cM b n X M P) (na b i) = 3 from g_kn hs0 hi]; decide))).2.2.2]; exact hlga0
          refine lv_dup hx hb dX2_write_31 rfl ?_
          refine lv_aload_n hx hb dX2_write_32 rfl (lv_at hl 1 rfl) ?_
          refine q_gw (w := i) hC hG cF2 i2 (g_kn hs (by omega)) 0 (by decide) rfl (g_n0 hs (by omega)) k15 dX2_write_33 ?_
          refine lv_iload_n hx hb dX2_write_36 rfl (lv_at hl 2 rfl) ?_
          refine lv_iload_n hx hb dX2_write_37 rfl (lv_at hl 3 rfl) ?_
          refine lv_aload_n hx hb dX2_write_38 rfl (lv_at hl 1 rfl) ?_
          refine q_gw (w := M 6 i) hC hG cF2 i2 (g_kn hs (by omega)) 10 (by decide) rfl (g_n10 (by omega)) k51 dX2_write_39 ?_
          have b7 : M 6 i < 2147483648 := by have := hB.1 6 i rfl; first | exact this | (simp [up2, m_cp, m_cpk] at this; exact this) | omega
          refine lv_iload hx hb dX2_write_42 (lv_at hl 0 rfl) ?_
          refine n_ifeq (tgt := 54) hC dX2_write_44 (by decide) (by omega) (fun c44 => ?_) (fun c44 => ?_)
          · refine lv_aload_n hx hb dX2_write_54 rfl (lv_at hl 1 rfl) ?_
            refine q_getr hC hG cF2 i2 (g_kn hs (by omega)) 4 (by decide) rfl (hs.1.2.2.2.2.2.1 i (by omega)).2.1.2.1 k29 dX2_write_55 ?_
            refine lv_iload hx hb dX2_write_58 (lv_at hl 0 rfl) ?_
            refine n_ifeq (tgt := 70) hC dX2_write_60 (by decide) (by omega) (fun c60 => ?_) (fun c60 => ?_)
            · refine n_iconst hC 0 dX2_write_70 ?_
              refine lv_iload_n hx hb dX2_write_71 rfl (lv_at hl 4 rfl) ?_
              refine q_callI (rest := [.ref (nx X)]) (k_X0_init l D cA A (X := cM b n (nw X 1 0) M P) (nx X) i j k (M 6 i) (b + 1) 0 c0 (show kd (nw X 1 0) (nx X) = 1 from va_up_self _ _ _)) hC hG 7 gX2_write_X0_init rfl (hts (.initialized yX0_init.cls) (by decide +kernel)) (hts (.methodLink RX2 197 yX0_init) (by decide +kernel)) (hts (.instanceMethod yX0_init) (by decide +kernel)) rfl (by decide +kernel) ⟨by decide, by decide⟩ rfl hl.1 rfl (by simp [Value.category]) dX2_write_72 ⟨Nat.le_of_ble_eq_true rfl, Nat.le_of_ble_eq_true rfl⟩ (fun v Y H locs hq hG => ?_)
              obtain ⟨rfl, rfl⟩ := hq
              rw [lw_cM _ _ _ hhe] at hG
              exact q_aret (v := (some (nx X))) hC hG hr (by first | exact Or.inl ⟨_, rfl⟩ | exact Or.inr ⟨_, rfl⟩) hlk (by obtain ⟨e1, e2, e3, e4, e5, e6, e7, e8, e9⟩ := lw_at X i j k (M 6 i) (b + 1) 0 c0; have ff := lw_fr X i j k (M 6 i) (b + 1) 0 c0; have gg : go b n X (lw X i j k (M 6 i) (b + 1) 0 c0) := go_fr ff hlt hhe; exact ⟨lw X i j k (M 6 i) (b + 1) 0 c0, nx X, rfl, rfl, Sd_fr hs0 ff hlt, gg, ⟨⟨e1, e2, e3, e4, e5, e7, e8⟩, (b + 1), e9, fun z => absurd (by simp only [m_hl, if_neg c2, if_neg c7, if_neg c12, if_neg c18, if_pos c44, if_pos c60]) z, fun _ => ⟨e6, rfl⟩⟩, fun l hl0 z => by rw [(ff.2 (b + 4) (by unfold he at hhe; omega)).2.2.2] at z; obtain ⟨q2, w1, w2⟩ := hs0.2.2.1 l hl0; rw [w1] at z; have := hlt q2 (by rw [show kd (cM b n X M P) q2 = 1 from w2.1.1]; decide); cases z; exact Nat.lt_irrefl _ this, Nat.le_refl _⟩) dX2_write_75 (h1 := by decide) (h2 := by decide)
            · exact absurd c60 (by decide)
          · exact absurd c44 (by decide)
        · refine n_iconst hC 1 dX2_write_21 ?_
          refine lv_goto (tgt := 26) hx hb dX2_write_22 (by decide) ?_
          refine lv_istore (lv' := [(4, .int (nI 1)), (0, .ref (na b i)), (1, .int (nI j)), (2, .int (nI k)), (3, .int (nI c0))]) hx hb dX2_write_26 hl (by decide) rfl (fun ls hl => ?_)
          have hlt := gw_lt hG
          have hhe := hs.2.2.2.2.2.2.2.1
          have hs0 := hs
          obtain ⟨lg, hlga0, hlg⟩ := hs.2.2.2.1 i hi
          refine q_new hC hG cF0 i0 (hts (.classLink RX2 36 RX0) (by decide +kernel)) (hts (.instantiable RX0 8) (by decide +kernel)) (hts (.initialized RX0) (by decide +kernel)) (by decide) (by decide) dX2_write_28 (fun H hG => ?_)
          rw [cM_nw _ _ _ _ _ hhe] at hG
          have hfr := fr_nw (fr_rf X) 1 0
          have hs := Sd_fr hs hfr hlt
          have hlga : rv (nw X 1 0) (na b i) 12 = some lg := by rw [(hfr.2 (na b i) (hlt _ (by rw [show kd (cM b n X M P) (na b i) = 3 from g_kn hs0 hi]; decide))).2.2.2]; exact hlga0
          refine lv_dup hx hb dX2_write_31 rfl ?_
          refine lv_aload_n hx hb dX2_write_32 rfl (lv_at hl 1 rfl) ?_
          refine q_gw (w := i) hC hG cF2 i2 (g_kn hs (by omega)) 0 (by decide) rfl (g_n0 hs (by omega)) k15 dX2_write_33 ?_
          refine lv_iload_n hx hb dX2_write_36 rfl (lv_at hl 2 rfl) ?_
          refine lv_iload_n hx hb dX2_write_37 rfl (lv_at hl 3 rfl) ?_
          refine lv_aload_n hx hb dX2_write_38 rfl (lv_at hl 1 rfl) ?_
          refine q_gw (w := M 6 i) hC hG cF2 i2 (g_kn hs (by omega)) 10 (by decide) rfl (g_n10 (by omega)) k51 dX2_write_39 ?_
          have b8 : M 6 i < 2147483648 := by have := hB.1 6 i rfl; first | exact this | (simp [up2, m_cp, m_cpk] at this; exact this) | omega
          refine lv_iload hx hb dX2_write_42 (lv_at hl 0 rfl) ?_
          refine n_ifeq (tgt := 54) hC dX2_write_44 (by decide) (by omega) (fun c44 => ?_) (fun c44 => ?_)
          · exact absurd c44 (by decide)
          · refine lv_aload_n hx hb dX2_write_47 rfl (lv_at hl 1 rfl) ?_
            refine q_getr hC hG cF2 i2 (g_kn hs (by omega)) 12 (by decide) rfl hlga k33 dX2_write_48 ?_
            refine lv_goto (tgt := 58) hx hb dX2_write_51 (by decide) ?_
            refine lv_iload hx hb dX2_write_58 (lv_at hl 0 rfl) ?_
            refine n_ifeq (tgt := 70) hC dX2_write_60 (by decide) (by omega) (fun c60 => ?_) (fun c60 => ?_)
            · exact absurd c60 (by decide)
            · refine lv_aload_n hx hb dX2_write_63 rfl (lv_at hl 1 rfl) ?_
              refine q_gw (w := M 4 i) hC hG cF2 i2 (g_kn hs (by omega)) 11 (by decide) rfl (g_n11 (by omega)) k62 dX2_write_64 ?_
              have b9 : M 4 i < 2147483648 := by have := hB.1 4 i rfl; first | exact this | (simp [up2, m_cp, m_cpk] at this; exact this) | omega
              refine lv_goto (tgt := 71) hx hb dX2_write_67 (by decide) ?_
              refine lv_iload_n hx hb dX2_write_71 rfl (lv_at hl 4 rfl) ?_
              refine q_callI (rest := [.ref (nx X)]) (k_X0_init l D cA A (X := cM b n (nw X 1 0) M P) (nx X) i j k (M 6 i) lg (M 4 i) c0 (show kd (nw X 1 0) (nx X) = 1 from va_up_self _ _ _)) hC hG 7 gX2_write_X0_init rfl (hts (.initialized yX0_init.cls) (by decide +kernel)) (hts (.methodLink RX2 197 yX0_init) (by decide +kernel)) (hts (.instanceMethod yX0_init) (by decide +kernel)) rfl (by decide +kernel) ⟨by decide, by decide⟩ rfl hl.1 rfl (by simp [Value.category]) dX2_write_72 ⟨Nat.le_of_ble_eq_true rfl, Nat.le_of_ble_eq_true rfl⟩ (fun v Y H locs hq hG => ?_)
              obtain ⟨rfl, rfl⟩ := hq
              rw [lw_cM _ _ _ hhe] at hG
              exact q_aret (v := (some (nx X))) hC hG hr (by first | exact Or.inl ⟨_, rfl⟩ | exact Or.inr ⟨_, rfl⟩) hlk (by obtain ⟨e1, e2, e3, e4, e5, e6, e7, e8, e9⟩ := lw_at X i j k (M 6 i) lg (M 4 i) c0; have ff := lw_fr X i j k (M 6 i) lg (M 4 i) c0; have gg : go b n X (lw X i j k (M 6 i) lg (M 4 i) c0) := go_fr ff hlt hhe; exact ⟨lw X i j k (M 6 i) lg (M 4 i) c0, nx X, rfl, rfl, Sd_fr hs0 ff hlt, gg, ⟨⟨e1, e2, e3, e4, e5, e7, e8⟩, lg, e9, fun _ => ⟨e6, hlg.go gg⟩, fun z => absurd z (by simp only [m_hl, if_neg c2, if_neg c7, if_neg c12, if_pos c18, if_neg c44, if_neg c60]; decide)⟩, fun l hl0 z => by rw [(ff.2 (b + 4) (by unfold he at hhe; omega)).2.2.2] at z; obtain ⟨q2, w1, w2⟩ := hs0.2.2.1 l hl0; rw [w1] at z; have := hlt q2 (by rw [show kd (cM b n X M P) q2 = 1 from w2.1.1]; decide); cases z; exact Nat.lt_irrefl _ this, Nat.le_refl _⟩) dX2_write_75 (h1 := by decide) (h2 := by decide)

abbrev rmX2_postToAll : Room := { frames := 3, cells := 5, slots := 40, locals := 71 }
set_option maxHeartbeats 4000000 in
set_option maxRecDepth 100000 in
theorem k_X2_postToAll (l : Launch) (D : va_G) (cA : Nat → ClassId) (A : Nat → Prop) {b n f : Nat} {X : Mem} {M : MM} {P : Nat → Nat} (hs : Sd b n f X M) (hJ : J M) {i : Nat} (hi : i < n) (k c0 : Nat) (hk : k < 2147483648) (hc0 : c0 < 2147483648) : mt l D cA A yX2_postToAll wsX2_postToAll rmX2_postToAll [.ref (na b i), .int (nI k), .int (nI c0)] (cM b n X M P) (fun w Y => w = none ∧ ∃ X1, Y = cM b n X1 (m_pa M i k (M 6 i) c0 n) P ∧ Sd b n f X1 (m_pa M i k (M 6 i) c0 n) ∧ go b n X X1) := by
  refine q_start (by decide) rfl (Nat.le_of_ble_eq_true rfl) (fun p e s m args below meth c H locs hC hr hlk hnm hG ls hl => ?_)
  have hl : lv_has ls 4 [(0, .ref (na b i)), (1, .int (nI k)), (2, .int (nI c0))] := hl
  have hx := hC.1.1
  have hb := hC.1.2.1
  have hts := hC.1.2.2.2.2
  have i2 : ∀ w ∈ wsX20, w ∈ wsX2_postToAll := by decide +kernel
  have hnf := g_nf hs
  have hB := hJ.1
  have hL := hJ.2.1
  have hE := hJ.2.2.1
  have hJ0 := hJ
  have b6 := hB.1 6 i rfl
  have k15 := hts (.fieldLink RX2 15 "ViewStamps$Node" "number" "I") (by decide +kernel)
  have k19 := hts (.fieldLink RX2 19 "ViewStamps$Node" "size" "I") (by decide +kernel)
  have k25 := hts (.fieldLink RX2 25 "ViewStamps$Node" "pool" "LViewStamps$Pool;") (by decide +kernel)
  have loop : ∀ (d : Nat) (j : Nat) (X1 : Mem) (H : Heap) (locs : List Loc) (ls : Array Slot), n - j < d → j ≤ n → Sd b n f X1 (m_pa M i k (M 6 i) c0 j) → go b n X X1 → gw D cA A (cM b n X1 (m_pa M i k (M 6 i) c0 j) P) s.heap H locs → lv_has ls 4 [(0, .ref (na b i)), (1, .int (nI k)), (2, .int (nI c0)), (3, .int (nI j))] → W p l e rmX2_postToAll s m args below meth c H locs j (8 * j) (MQ below (mQ D cA A (fun w Y => w = none ∧ ∃ X1, Y = cM b n X1 (m_pa M i k (M 6 i) c0 n) P ∧ Sd b n f X1 (m_pa M i k (M 6 i) c0 n) ∧ go b n X X1)) args s rmX2_postToAll.cells rmX2_postToAll.slots A) (F0 m 2 ls []) := by
    intro d
    induction d with
    | zero => intro j X1 H locs ls hd; exact absurd hd (Nat.not_lt_zero _)
    | succ d ih =>
      intro j X1 H locs ls hd hj hs hgo hG hl
      have hJ := J_pa (i := i) (k := k) (v := M 6 i) (c := c0) hJ0 (by omega) (by omega) (by omega) (by omega) j (by omega)
      have hB := hJ.1
      have hL := hJ.2.1
      have e6 : m_pa M i k (M 6 i) c0 j 6 i = M 6 i := m_pa_o M i k (M 6 i) c0 (by decide) j
      refine lv_iload_n hx hb dX2_postToAll_2 rfl (lv_at hl 3 rfl) ?_
      refine lv_aload_n hx hb dX2_postToAll_3 rfl (lv_at hl 0 rfl) ?_
      refine q_gw (w := n) hC hG cF2 i2 (g_kn hs (by omega)) 1 (by decide) rfl (g_n1 hs (by omega)) k19 dX2_postToAll_4 ?_
      refine n_ge (tgt := 38) hC dX2_postToAll_7 (by decide) (by omega) (by omega) (fun c7 => ?_) (fun c7 => ?_)
      · have c7n := Nat.not_lt.mpr c7
        exact q_vret hC hG hr hlk (⟨rfl, X1, by rw [show j = n by omega], (by have e : j = n := (by omega); rw [e] at hs; exact hs), hgo⟩) dX2_postToAll_38 (h1 := by show j ≤ 5; omega) (h2 := by show 8 * j ≤ 40; omega)
      · have c7n := Nat.not_le.mpr c7
        refine lv_iload_n hx hb dX2_postToAll_10 rfl (lv_at hl 3 rfl) ?_
        refine lv_aload_n hx hb dX2_postToAll_11 rfl (lv_at hl 0 rfl) ?_
        refine q_gw (w := i) hC hG cF2 i2 (g_kn hs (by omega)) 0 (by decide) rfl (g_n0 hs (by omega)) k15 dX2_postToAll_12 ?_
        refine n_eq (tgt := 32) hC dX2_postToAll_15 (by decide) (by omega) (by omega) (fun c15 => ?_) (fun c15 => ?_)
        · refine n_iinc (n := 1) (k := 3) (lv' := [(3, .int (nI (j + 1))), (0, .ref (na b i)), (1, .int (nI k)), (2, .int (nI c0))]) hC dX2_postToAll_32 hl rfl (by decide) rfl (fun ls hl => ?_)
          refine lv_goto (tgt := 2) hx hb dX2_postToAll_35 (by decide) ?_
          refine W.widen (k := j + 1) (n := 8 * (j + 1)) (by first | omega | (show _ ≤ j + 1; simp only [rmX2_write, rmX3_add]; omega)) (by first | omega | (show _ ≤ 8 * (j + 1); simp only [rmX2_write, rmX3_add]; omega)) ?_
          have e9 : m_pa M i k (M 6 i) c0 (j + 1) = m_pa M i k (M 6 i) c0 j := by simp only [m_pa, if_pos c15]
          exact ih (j + 1) X1 _ _ _ (by omega) (by omega) (by rw [e9]; exact hs) hgo (by rw [e9]; exact hG) (lv_sub hl [1, 2, 3, 0] rfl)
        · refine lv_aload_n hx hb dX2_postToAll_18 rfl (lv_at hl 0 rfl) ?_
          refine q_getr hC hG cF2 i2 (g_kn hs (by omega)) 3 (by decide) rfl (hs.1.2.2.2.2.2.1 i (by omega)).2.1.1 k25 dX2_postToAll_19 ?_
          refine lv_aload_n hx hb dX2_postToAll_22 rfl (lv_at hl 0 rfl) ?_
          refine lv_iload_n hx hb dX2_postToAll_23 rfl (lv_at hl 3 rfl) ?_
          refine lv_iload_n hx hb dX2_postToAll_24 rfl (lv_at hl 1 rfl) ?_
          refine lv_iload_n hx hb dX2_postToAll_25 rfl (lv_at hl 2 rfl) ?_
          refine q_callV (rest := [.ref (b + 3)]) (k_X2_write l D cA A hs hJ (i := i) (by omega) j k c0 (by omega) (by omega) (by omega)) hC hG cF2 (g_kn hs (by omega)) 3 gX2_postToAll_X2_write rfl (by decide +kernel) ⟨by decide, by decide⟩ rfl hl.1 rfl (by simp [Value.category]) dX2_postToAll_26 ⟨by simp only [rmX2_write, rmX3_add, rmX2_postToAll]; omega, by simp only [rmX2_write, rmX3_add, rmX2_postToAll]; omega⟩ (fun v Y H locs hq hG => ?_)
          obtain ⟨Xw, qw, rfl, rfl, hs, hgw, hw, hwf, hwn⟩ := hq
          rw [e6] at hw
          refine q_callV (rest := []) (k_X3_add l D cA A hs hJ (by omega) hw hwf) hC hG cF3 hs.1.2.2.1.1 1 gX2_postToAll_X3_add rfl (by decide +kernel) ⟨by decide, by decide⟩ rfl hl.1 rfl (by simp [Value.category]) dX2_postToAll_29 ⟨by simp only [rmX2_write, rmX3_add, rmX2_postToAll]; omega, by simp only [rmX2_write, rmX3_add, rmX2_postToAll]; omega⟩ (fun v Y H locs hq hG => ?_)
          obtain ⟨rfl, Xa, rfl, hs, hga⟩ := hq
          have hJ := J_post (i := i) (j := j) (k := k) (v := M 6 i) (c := c0) hJ (by omega) (by omega) (by omega) (by first | omega | exact hJ.1.1 6 _ rfl) (by omega)
          have hB := hJ.1
          have hL := hJ.2.1
          have hE := hJ.2.2.1
          have hgo := go_tr hgo (go_tr hgw hga)
          refine n_iinc (n := 1) (k := 3) (lv' := [(3, .int (nI (j + 1))), (0, .ref (na b i)), (1, .int (nI k)), (2, .int (nI c0))]) hC dX2_postToAll_32 hl rfl (by decide) rfl (fun ls hl => ?_)
          refine lv_goto (tgt := 2) hx hb dX2_postToAll_35 (by decide) ?_
          refine W.widen (k := j + 1) (n := 8 * (j + 1)) (by first | omega | (show _ ≤ j + 1; simp only [rmX2_write, rmX3_add]; omega)) (by first | omega | (show _ ≤ 8 * (j + 1); simp only [rmX2_write, rmX3_add]; omega)) ?_
          have e9 : m_pa M i k (M 6 i) c0 (j + 1) = m_post (m_pa M i k (M 6 i) c0 j) i j k (M 6 i) c0 := by simp only [m_pa, if_neg c15]
          exact ih (j + 1) Xa _ _ _ (by omega) (by omega) (by rw [e9]; exact hs) hgo (by rw [e9]; exact hG) (lv_sub hl [1, 2, 3, 0] rfl)
  refine n_iconst hC 0 dX2_postToAll_0 ?_
  refine lv_istore_n (lv' := [(3, .int (nI 0)), (0, .ref (na b i)), (1, .int (nI k)), (2, .int (nI c0))]) hx hb dX2_postToAll_1 rfl hl (by decide) rfl (fun ls hl => ?_)
  exact loop (n + 1) 0 X _ _ _ (by omega) (by omega) hs (go_rf b n X) hG (lv_sub hl [1, 2, 3, 0] rfl)

abbrev rmX2_postOk : Room := { frames := 3, cells := 1, slots := 8, locals := 71 }
set_option maxHeartbeats 4000000 in
set_option maxRecDepth 100000 in
theorem k_X2_postOk (l : Launch) (D : va_G) (cA : Nat → ClassId) (A : Nat → Prop) {b n f : Nat} {X : Mem} {M : MM} {P : Nat → Nat} (hs : Sd b n f X M) (hJ : J M) {i : Nat} (hi : i < n) : mt l D cA A yX2_postOk wsX2_postOk rmX2_postOk [.ref (na b i)] (cM b n X M P) (fun w Y => w = none ∧ ∃ X1, Y = cM b n X1 (m_pok n M i) P ∧ Sd b n f X1 (m_pok n M i) ∧ go b n X X1) := by
  refine q_start (by decide) rfl (Nat.le_of_ble_eq_true rfl) (fun p e s m args below meth c H locs hC hr hlk hnm hG ls hl => ?_)
  have hl : lv_has ls 1 [(0, .ref (na b i))] := hl
  have hx := hC.1.1
  have hb := hC.1.2.1
  have hts := hC.1.2.2.2.2
  have i2 : ∀ w ∈ wsX20, w ∈ wsX2_postOk := by decide +kernel
  have hnf := g_nf hs
  have hB := hJ.1
  have hL := hJ.2.1
  have hE := hJ.2.2.1
  have hgo := go_rf b n X
  have k25 := hts (.fieldLink RX2 25 "ViewStamps$Node" "pool" "LViewStamps$Pool;") (by decide +kernel)
  have k33 := hts (.fieldLink RX2 33 "ViewStamps$Node" "log" "LViewStamps$Log;") (by decide +kernel)
  have k51 := hts (.fieldLink RX2 51 "ViewStamps$Node" "view" "I") (by decide +kernel)
  refine lv_aload_n hx hb dX2_postOk_0 rfl (lv_at hl 0 rfl) ?_
  refine q_getr hC hG cF2 i2 (g_kn hs (by omega)) 3 (by decide) rfl (hs.1.2.2.2.2.2.1 i (by omega)).2.1.1 k25 dX2_postOk_1 ?_
  refine lv_aload_n hx hb dX2_postOk_4 rfl (lv_at hl 0 rfl) ?_
  refine lv_aload_n hx hb dX2_postOk_5 rfl (lv_at hl 0 rfl) ?_
  refine lv_aload_n hx hb dX2_postOk_6 rfl (lv_at hl 0 rfl) ?_
  refine q_gw (w := M 6 i) hC hG cF2 i2 (g_kn hs (by omega)) 10 (by decide) rfl (g_n10 (by omega)) k51 dX2_postOk_7 ?_
  have b1 : M 6 i < 2147483648 := by have := hB.1 6 i rfl; first | exact this | (simp [up2, m_cp, m_cpk] at this; exact this) | omega
  refine q_callV (rest := [.ref (na b i), .ref (b + 3)]) (k_X2_firstOf l D cA A hs hJ (i := i) (by omega) (M 6 i) (by omega)) hC hG cF2 (g_kn hs (by omega)) 1 gX2_postOk_X2_firstOf rfl (by decide +kernel) ⟨by decide, by decide⟩ rfl hl.1 rfl (by simp [Value.category]) dX2_postOk_10 ⟨by decide, by decide⟩ (fun v Y H locs hq hG => ?_)
  obtain ⟨rfl, rfl⟩ := hq
  have r10 : (M 6 i) % n < n := Nat.mod_lt _ (by omega)
  refine n_iconst hC 2 dX2_postOk_13 ?_
  refine lv_aload_n hx hb dX2_postOk_14 rfl (lv_at hl 0 rfl) ?_
  obtain ⟨lgn2, hlgn2a, hlgn2⟩ := hs.2.2.2.1 i (by omega)
  have hLlgn2 := hL i (by omega)
  refine q_getr hC hG cF2 i2 (g_kn hs (by omega)) 12 (by decide) rfl hlgn2a k33 dX2_postOk_15 ?_
  refine q_callV (rest := [.int (nI 2), .int (nI ((M 6 i) % n)), .ref (na b i), .ref (b + 3)]) (k_X1_size l D cA A hs hlgn2 hLlgn2.1) hC hG cF1 hlgn2.1 0 gX2_postOk_X1_size rfl (by decide +kernel) ⟨by decide, by decide⟩ rfl hl.1 rfl (by simp [Value.category]) dX2_postOk_18 ⟨by decide, by decide⟩ (fun v Y H locs hq hG => ?_)
  obtain ⟨rfl, rfl⟩ := hq
  refine q_callV (rest := [.ref (b + 3)]) (k_X2_write l D cA A hs hJ (i := i) (by omega) ((M 6 i) % n) 2 (M 3 i) (by omega) (by omega) (by omega)) hC hG cF2 (g_kn hs (by omega)) 3 gX2_postOk_X2_write rfl (by decide +kernel) ⟨by decide, by decide⟩ rfl hl.1 rfl (by simp [Value.category]) dX2_postOk_21 ⟨by decide, by decide⟩ (fun v Y H locs hq hG => ?_)
  obtain ⟨Xw, qw, rfl, rfl, hs, hgw, hw, hwf, hwn⟩ := hq
  refine q_callV (rest := []) (k_X3_add l D cA A hs hJ (by omega) hw hwf) hC hG cF3 hs.1.2.2.1.1 1 gX2_postOk_X3_add rfl (by decide +kernel) ⟨by decide, by decide⟩ rfl hl.1 rfl (by simp [Value.category]) dX2_postOk_24 ⟨by decide, by decide⟩ (fun v Y H locs hq hG => ?_)
  obtain ⟨rfl, Xa, rfl, hs, hga⟩ := hq
  have hJ := J_post (i := i) (j := (M 6 i) % n) (k := 2) (v := M 6 i) (c := M 3 i) hJ (by omega) (by omega) (by omega) (by first | omega | exact hJ.1.1 6 _ rfl) (by omega)
  have hB := hJ.1
  have hL := hJ.2.1
  have hE := hJ.2.2.1
  have hgo := go_tr hgo (go_tr hgw hga)
  exact q_vret hC hG hr hlk (⟨rfl, _, rfl, hs, hgo⟩) dX2_postOk_27 (h1 := by decide) (h2 := by decide)
