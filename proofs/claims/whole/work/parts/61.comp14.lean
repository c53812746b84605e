abbrev rmX3_init : Room := { frames := 1, cells := 1, slots := 240, locals := 20 }
set_option maxHeartbeats 4000000 in
set_option maxRecDepth 100000 in
theorem k_X3_init (l : Launch) (D : va_G) (cA : Nat → ClassId) (A : Nat → Prop) {X : Mem} (q : Nat) (hk0 : kd X q = 4) (hq0 : q < nx X) : mtE l D cA A yX3_init wsX3_init rmX3_init [.ref q] (X) (fun v Y => v = none ∧ Y = wR (nw X 9 240) q 0 (some (nx X))) := by
  refine q_startE (by decide) rfl (Nat.le_of_ble_eq_true rfl) (fun p e s m args below meth c H locs hC hr hlk hnm hG hE ls hl => ?_)
  have hl : lv_has ls 1 [(0, .ref q)] := hl
  have hx := hC.1.1
  have hb := hC.1.2.1
  have hts := hC.1.2.2.2.2
  have i3 : ∀ w ∈ wsX30, w ∈ wsX3_init := by decide +kernel
  have k11 := hts (.fieldLink RX3 11 "ViewStamps$Pool" "letters" "[LViewStamps$Letter;") (by decide +kernel)
  refine lv_aload_n hx hb dX3_init_0 rfl (lv_at hl 0 rfl) ?_
  refine q_obj hC (hts (.methodLink RX3 3 objectInit) (by decide +kernel)) (hts (.instanceMethod objectInit) (by decide +kernel)) (hts (.code objectInit ⟨#[0xb1]⟩ 1 none) (by decide +kernel)) hl.1 (by simp [Value.category]) (by decide) (by decide) dX3_init_1 ?_
  refine lv_aload_n hx hb dX3_init_4 rfl (lv_at hl 0 rfl) ?_
  refine n_sipush hC 240 (by decide +kernel) dX3_init_5 ?_
  refine q_newL hC hG (240) (by omega) (hts (.classLink RX3 9 RX0) (by decide +kernel)) (va_AO.use hE.2.1) (by first | decide | (simp only [rmX3_init]; omega)) (by first | decide | (simp only [rmX3_init]; omega)) dX3_init_8 (fun H hG => ?_)
  refine q_putr hC hG cF3 i3 ((va_up_ne _ _ (by omega)).trans hk0) 0 (by decide) rfl k11 (by first | exact Or.inl rfl | exact Or.inr ⟨hnm, rfl⟩) rfl rfl dX3_init_11 (fun H locs hG => ?_)
  exact q_vret hC hG hr hlk (⟨rfl, rfl⟩) dX3_init_14 (h1 := by decide) (h2 := by decide)

abbrev rmX2_init : Room := { frames := 1, cells := 4, slots := 23, locals := 20 }
set_option maxHeartbeats 4000000 in
set_option maxRecDepth 100000 in
theorem k_X2_init (l : Launch) (D : va_G) (cA : Nat → ClassId) (A : Nat → Prop) {X : Mem} (q i n f pl em : Nat) (hk0 : kd X q = 3) (hq0 : q < nx X) (hnf : (n = 3 ∧ f = 1) ∨ (n = 5 ∧ f = 2)) (hi : i < n) : mtE l D cA A yX2_init wsX2_init rmX2_init [.ref q, .int (nI i), .int (nI n), .ref pl, .ref em] (X) (fun v Y => v = none ∧ NDP X q i n f pl em Y) := by
  refine q_startE (by decide) rfl (Nat.le_of_ble_eq_true rfl) (fun p e s m args below meth c H locs hC hr hlk hnm hG hE ls hl => ?_)
  have hl : lv_has ls 5 [(0, .ref q), (1, .int (nI i)), (2, .int (nI n)), (3, .ref pl), (4, .ref em)] := hl
  have hx := hC.1.1
  have hb := hC.1.2.1
  have hts := hC.1.2.2.2.2
  have i2 : ∀ w ∈ wsX20, w ∈ wsX2_init := by decide +kernel
  have hN := NB_0 X q (fun _ => (0, 0))
  obtain ⟨Z, hZ⟩ : ∃ Z, Z = X := ⟨_, rfl⟩
  rw [← hZ] at hG
  have hN : NB X q 0 (fun _ => none) (fun _ => none) (fun _ => (0, 0)) Z := by rw [hZ]; exact hN
  clear hZ
  have k9 := hts (.fieldLink RX2 9 "ViewStamps$Node" "registers" "[I") (by decide +kernel)
  have k15 := hts (.fieldLink RX2 15 "ViewStamps$Node" "number" "I") (by decide +kernel)
  have k19 := hts (.fieldLink RX2 19 "ViewStamps$Node" "size" "I") (by decide +kernel)
  have k22 := hts (.fieldLink RX2 22 "ViewStamps$Node" "enough" "I") (by decide +kernel)
  have k25 := hts (.fieldLink RX2 25 "ViewStamps$Node" "pool" "LViewStamps$Pool;") (by decide +kernel)
  have k29 := hts (.fieldLink RX2 29 "ViewStamps$Node" "empty" "LViewStamps$Log;") (by decide +kernel)
  have k33 := hts (.fieldLink RX2 33 "ViewStamps$Node" "log" "LViewStamps$Log;") (by decide +kernel)
  have k38 := hts (.fieldLink RX2 38 "ViewStamps$Node" "votes" "[LViewStamps$Letter;") (by decide +kernel)
  have k42 := hts (.fieldLink RX2 42 "ViewStamps$Node" "tales" "[LViewStamps$Letter;") (by decide +kernel)
  have k45 := hts (.fieldLink RX2 45 "ViewStamps$Node" "told" "[I") (by decide +kernel)
  refine lv_aload_n hx hb dX2_init_0 rfl (lv_at hl 0 rfl) ?_
  refine q_obj hC (hts (.methodLink RX2 3 objectInit) (by decide +kernel)) (hts (.instanceMethod objectInit) (by decide +kernel)) (hts (.code objectInit ⟨#[0xb1]⟩ 1 none) (by decide +kernel)) hl.1 (by simp [Value.category]) (by decide) (by decide) dX2_init_1 ?_
  refine lv_aload_n hx hb dX2_init_4 rfl (lv_at hl 0 rfl) ?_
  refine n_bipush hC 8 (by decide) dX2_init_5 ?_
  refine q_newa hC hG (8) (by omega) (hts (.arrayClass .int) (by decide +kernel)) (by first | decide | (simp only [rmX2_init]; omega)) (by first | decide | (simp only [rmX2_init]; omega)) dX2_init_7 (fun H hG => ?_)
  rw [show nx Z = nx X from hN.1]
  have hN := NB_nw hN hq0 7 8
  generalize nw Z 7 8 = Z at hG hN
  refine q_putr hC hG cF2 i2 (NB_kd hN hq0 hk0) 7 (by decide) rfl k9 (by first | exact Or.inl rfl | exact Or.inr ⟨hnm, rfl⟩) rfl rfl dX2_init_9 (fun H locs hG => ?_)
  have hN := NB_wR hN hq0 7 (some (nx X))
  generalize wR Z q 7 (some (nx X)) = Z at hG hN
  refine lv_aload_n hx hb dX2_init_12 rfl (lv_at hl 0 rfl) ?_
  refine lv_iload_n hx hb dX2_init_13 rfl (lv_at hl 1 rfl) ?_
  refine q_puti hC hG cF2 i2 (NB_kd hN hq0 hk0) 0 (by decide) rfl k15 (by first | exact Or.inl rfl | exact Or.inr ⟨hnm, rfl⟩) rfl rfl dX2_init_14 (fun H locs hG => ?_)
  have hN := NB_wI hN hq0 0 i
  generalize wI Z q 0 i = Z at hG hN
  refine lv_aload_n hx hb dX2_init_17 rfl (lv_at hl 0 rfl) ?_
  refine lv_iload_n hx hb dX2_init_18 rfl (lv_at hl 2 rfl) ?_
  refine q_puti hC hG cF2 i2 (NB_kd hN hq0 hk0) 1 (by decide) rfl k19 (by first | exact Or.inl rfl | exact Or.inr ⟨hnm, rfl⟩) rfl rfl dX2_init_19 (fun H locs hG => ?_)
  have hN := NB_wI hN hq0 1 n
  generalize wI Z q 1 n = Z at hG hN
  refine lv_aload_n hx hb dX2_init_22 rfl (lv_at hl 0 rfl) ?_
  refine lv_iload_n hx hb dX2_init_23 rfl (lv_at hl 2 rfl) ?_
  refine n_iconst hC 5 dX2_init_24 ?_
  refine n_ne (tgt := 32) hC dX2_init_25 (by decide) (by omega) (by omega) (fun c25 => ?_) (fun c25 => ?_)
  · refine n_iconst hC 1 dX2_init_32 ?_
    refine q_puti hC hG cF2 i2 (NB_kd hN hq0 hk0) 2 (by decide) rfl k22 (by first | exact Or.inl rfl | exact Or.inr ⟨hnm, rfl⟩) rfl rfl dX2_init_33 (fun H locs hG => ?_)
    have hN := NB_wI hN hq0 2 1
    generalize wI Z q 2 1 = Z at hG hN
    refine lv_aload_n hx hb dX2_init_36 rfl (lv_at hl 0 rfl) ?_
    refine lv_aload_n hx hb dX2_init_37 rfl (lv_at hl 3 rfl) ?_
    refine q_putr hC hG cF2 i2 (NB_kd hN hq0 hk0) 3 (by decide) rfl k25 (by first | exact Or.inl rfl | exact Or.inr ⟨hnm, rfl⟩) rfl rfl dX2_init_38 (fun H locs hG => ?_)
    have hN := NB_wR hN hq0 3 (some pl)
    generalize wR Z q 3 (some pl) = Z at hG hN
    refine lv_aload_n hx hb dX2_init_41 rfl (lv_at hl 0 rfl) ?_
    refine lv_aload hx hb dX2_init_42 (lv_at hl 4 rfl) ?_
    refine q_putr hC hG cF2 i2 (NB_kd hN hq0 hk0) 4 (by decide) rfl k29 (by first | exact Or.inl rfl | exact Or.inr ⟨hnm, rfl⟩) rfl rfl dX2_init_44 (fun H locs hG => ?_)
    have hN := NB_wR hN hq0 4 (some em)
    generalize wR Z q 4 (some em) = Z at hG hN
    refine lv_aload_n hx hb dX2_init_47 rfl (lv_at hl 0 rfl) ?_
    refine lv_aload hx hb dX2_init_48 (lv_at hl 4 rfl) ?_
    refine q_putr hC hG cF2 i2 (NB_kd hN hq0 hk0) 12 (by decide) rfl k33 (by first | exact Or.inl rfl | exact Or.inr ⟨hnm, rfl⟩) rfl rfl dX2_init_50 (fun H locs hG => ?_)
    have hN := NB_wR hN hq0 12 (some em)
    generalize wR Z q 12 (some em) = Z at hG hN
    refine lv_aload_n hx hb dX2_init_53 rfl (lv_at hl 0 rfl) ?_
    refine lv_iload_n hx hb dX2_init_54 rfl (lv_at hl 2 rfl) ?_
    refine q_newL hC hG (n) (by omega) (hts (.classLink RX2 36 RX0) (by decide +kernel)) (va_AO.use hE.2.1) (by first | decide | (simp only [rmX2_init]; omega)) (by first | decide | (simp only [rmX2_init]; omega)) dX2_init_55 (fun H hG => ?_)
    rw [show nx Z = nx X + 1 from hN.1]
    have hN := NB_nw hN hq0 9 n
    generalize nw Z 9 n = Z at hG hN
    refine q_putr hC hG cF2 i2 (NB_kd hN hq0 hk0) 5 (by decide) rfl k38 (by first | exact Or.inl rfl | exact Or.inr ⟨hnm, rfl⟩) rfl rfl dX2_init_58 (fun H locs hG => ?_)
    have hN := NB_wR hN hq0 5 (some (nx X + 1))
    generalize wR Z q 5 (some (nx X + 1)) = Z at hG hN
    refine lv_aload_n hx hb dX2_init_61 rfl (lv_at hl 0 rfl) ?_
    refine lv_iload_n hx hb dX2_init_62 rfl (lv_at hl 2 rfl) ?_
    refine q_newL hC hG (n) (by omega) (hts (.classLink RX2 36 RX0) (by decide +kernel)) (va_AO.use hE.2.1) (by first | decide | (simp only [rmX2_init]; omega)) (by first | decide | (simp only [rmX2_init]; omega)) dX2_init_63 (fun H hG => ?_)
    rw [show nx Z = nx X + 2 from hN.1]
    have hN := NB_nw hN hq0 9 n
    generalize nw Z 9 n = Z at hG hN
    refine q_putr hC hG cF2 i2 (NB_kd hN hq0 hk0) 6 (by decide) rfl k42 (by first | exact Or.inl rfl | exact Or.inr ⟨hnm, rfl⟩) rfl rfl dX2_init_66 (fun H locs hG => ?_)
    have hN := NB_wR hN hq0 6 (some (nx X + 2))
    generalize wR Z q 6 (some (nx X + 2)) = Z at hG hN
    refine lv_aload_n hx hb dX2_init_69 rfl (lv_at hl 0 rfl) ?_
    refine lv_iload_n hx hb dX2_init_70 rfl (lv_at hl 2 rfl) ?_
    refine q_newa hC hG (n) (by omega) (hts (.arrayClass .int) (by decide +kernel)) (by first | decide | (simp only [rmX2_init]; omega)) (by first | decide | (simp only [rmX2_init]; omega)) dX2_init_71 (fun H hG => ?_)
    rw [show nx Z = nx X + 3 from hN.1]
    have hN := NB_nw hN hq0 7 n
    generalize nw Z 7 n = Z at hG hN
    refine q_putr hC hG cF2 i2 (NB_kd hN hq0 hk0) 8 (by decide) rfl k45 (by first | exact Or.inl rfl | exact Or.inr ⟨hnm, rfl⟩) rfl rfl dX2_init_73 (fun H locs hG => ?_)
    have hN := NB_wR hN hq0 8 (some (nx X + 3))
    generalize wR Z q 8 (some (nx X + 3)) = Z at hG hN
    exact q_vret hC hG hr hlk (⟨rfl, by rw [show f = 1 by omega]; exact hN⟩) dX2_init_76 (h1 := by decide) (h2 := by show 0 + 8 + n + n + n ≤ 23; omega)
  · refine n_iconst hC 2 dX2_init_28 ?_
    refine lv_goto (tgt := 33) hx hb dX2_init_29 (by decide) ?_
    refine q_puti hC hG cF2 i2 (NB_kd hN hq0 hk0) 2 (by decide) rfl k22 (by first | exact Or.inl rfl | exact Or.inr ⟨hnm, rfl⟩) rfl rfl dX2_init_33 (fun H locs hG => ?_)
    have hN := NB_wI hN hq0 2 2
    generalize wI Z q 2 2 = Z at hG hN
    refine lv_aload_n hx hb dX2_init_36 rfl (lv_at hl 0 rfl) ?_
    refine lv_aload_n hx hb dX2_init_37 rfl (lv_at hl 3 rfl) ?_
    refine q_putr hC hG cF2 i2 (NB_kd hN hq0 hk0) 3 (by decide) rfl k25 (by first | exact Or.inl rfl | exact Or.inr ⟨hnm, rfl⟩) rfl rfl dX2_init_38 (fun H locs hG => ?_)
    have hN := NB_wR hN hq0 3 (some pl)
    generalize wR Z q 3 (some pl) = Z at hG hN
    refine lv_aload_n hx hb dX2_init_41 rfl (lv_at hl 0 rfl) ?_
    refine lv_aload hx hb dX2_init_42 (lv_at hl 4 rfl) ?_
    refine q_putr hC hG cF2 i2 (NB_kd hN hq0 hk0) 4 (by decide) rfl k29 (by first | exact Or.inl rfl | exact Or.inr ⟨hnm, rfl⟩) rfl rfl dX2_init_44 (fun H locs hG => ?_)
    have hN := NB_wR hN hq0 4 (some em)
    generalize wR Z q 4 (some em) = Z at hG hN
    refine lv_aload_n hx hb dX2_init_47 rfl (lv_at hl 0 rfl) ?_
    refine lv_aload hx hb dX2_init_48 (lv_at hl 4 rfl) ?_
    refine q_putr hC hG cF2 i2 (NB_kd hN hq0 hk0) 12 (by decide) rfl k33 (by first | exact Or.inl rfl | exact Or.inr ⟨hnm, rfl⟩) rfl rfl dX2_init_50 (fun H locs hG => ?_)
    have hN := NB_wR hN hq0 12 (some em)
    generalize wR Z q 12 (some em) = Z at hG hN
    refine lv_aload_n hx hb dX2_init_53 rfl (lv_at hl 0 rfl) ?_
    refine lv_iload_n hx hb dX2_init_54 rfl (lv_at hl 2 rfl) ?_
    refine q_newL hC hG (n) (by omega) (hts (.classLink RX2 36 RX0) (by decide +kernel)) (va_AO.use hE.2.1) (by first | decide | (simp only [rmX2_init]; omega)) (by first | decide | (simp only [rmX2_init]; omega)) dX2_init_55 (fun H hG => ?_)
    rw [show nx Z = nx X + 1 from hN.1]
    have hN := NB_nw hN hq0 9 n
    generalize nw Z 9 n = Z at hG hN
    refine q_putr hC hG cF2 i2 (NB_kd hN hq0 hk0) 5 (by decide) rfl k38 (by first | exact Or.inl rfl | exact Or.inr ⟨hnm, rfl⟩) rfl rfl dX2_init_58 (fun H locs hG => ?_)
    have hN := NB_wR hN hq0 5 (some (nx X + 1))
    generalize wR Z q 5 (some (nx X + 1)) = Z at hG hN
    refine lv_aload_n hx hb dX2_init_61 rfl (lv_at hl 0 rfl) ?_
    refine lv_iload_n hx hb dX2_init_62 rfl (lv_at hl 2 rfl) ?_
    refine q_newL hC hG (n) (by omega) (hts (.classLink RX2 36 RX0) (by decide +kernel)) (va_AO.use hE.2.1) (by first | decide | (simp only [rmX2_init]; omega)) (by first | decide | (simp only [rmX2_init]; omega)) dX2_init_63 (fun H hG => ?_)
    rw [show nx Z = nx X + 2 from hN.1]
    have hN := NB_nw hN hq0 9 n
    generalize nw Z 9 n = Z at hG hN
    refine q_putr hC hG cF2 i2 (NB_kd hN hq0 hk0) 6 (by decide) rfl k42 (by first | exact Or.inl rfl | exact Or.inr ⟨hnm, rfl⟩) rfl rfl dX2_init_66 (fun H locs hG => ?_)
    have hN := NB_wR hN hq0 6 (some (nx X + 2))
    generalize wR Z q 6 (some (nx X + 2)) = Z at hG hN
    refine lv_aload_n hx hb dX2_init_69 rfl (lv_at hl 0 rfl) ?_
    refine lv_iload_n hx hb dX2_init_70 rfl (lv_at hl 2 rfl) ?_
    refine q_newa hC hG (n) (by omega) (hts (.arrayClass .int) (by decide +kernel)) (by first | decide | (simp only [rmX2_init]; omega)) (by first | decide | (simp only [rmX2_init]; omega)) dX2_init_71 (fun H hG => ?_)
    rw [show nx Z = nx X + 3 from hN.1]
    have hN := NB_nw hN hq0 7 n
    generalize nw Z 7 n = Z at hG hN
    refine q_putr hC hG cF2 i2 (NB_kd hN hq0 hk0) 8 (by decide) rfl k45 (by first | exact Or.inl rfl | exact Or.inr ⟨hnm, rfl⟩) rfl rfl dX2_init_73 (fun H locs hG => ?_)
    have hN := NB_wR hN hq0 8 (some (nx X + 3))
    generalize wR Z q 8 (some (nx X + 3)) = Z at hG hN
    exact q_vret hC hG hr hlk (⟨rfl, by rw [show f = 2 by omega]; exact hN⟩) dX2_init_76 (h1 := by decide) (h2 := by show 0 + 8 + n + n + n ≤ 23; omega)

abbrev rmX4_init : Room := { frames := 2, cells := 31, slots := 480, locals := 44 }
set_option maxHeartbeats 4000000 in
set_option maxRecDepth 100000 in
theorem k_X4_init (l : Launch) (D : va_G) (cA : Nat → ClassId) (A : Nat → Prop) {X : Mem} (b n f : Nat) (nn : Int32) (hk0 : kd X b = 5) (hn0 : nx X = b + 1) (hn5 : nn = nI 5 → n = 5 ∧ f = 2) (hn3 : nn ≠ nI 5 → n = 3 ∧ f = 1) : mtE l D cA A yX4_init wsX4_init rmX4_init [.ref b, .int nn] (X) (fun v Y => v = none ∧ CF b n f X Y) := by
  refine q_startE (by decide) rfl (Nat.le_of_ble_eq_true rfl) (fun p e s m args below meth c H locs hC hr hlk hnm hG hE ls hl => ?_)
  have hl : lv_has ls 5 [(0, .ref b), (1, .int nn)] := hl
  have hx := hC.1.1
  have hb := hC.1.2.1
  have hts := hC.1.2.2.2.2
  have i4 : ∀ w ∈ wsX40, w ∈ wsX4_init := by decide +kernel
  have i1 : ∀ w ∈ wsX10, w ∈ wsX4_init := by decide +kernel
  have i3 : ∀ w ∈ wsX30, w ∈ wsX4_init := by decide +kernel
  have i2 : ∀ w ∈ wsX20, w ∈ wsX4_init := by decide +kernel
  have k15 := hts (.fieldLink RX4 15 "ViewStamps" "pool" "LViewStamps$Pool;") (by decide +kernel)
  have k23 := hts (.fieldLink RX4 23 "ViewStamps" "nodes" "[LViewStamps$Node;") (by decide +kernel)
  have k30 := hts (.fieldLink RX4 30 "ViewStamps" "cutLines" "[Z") (by decide +kernel)
  refine lv_aload_n hx hb dX4_init_0 rfl (lv_at hl 0 rfl) ?_
  refine q_obj hC (hts (.methodLink RX4 1 objectInit) (by decide +kernel)) (hts (.instanceMethod objectInit) (by decide +kernel)) (hts (.code objectInit ⟨#[0xb1]⟩ 1 none) (by decide +kernel)) hl.1 (by simp [Value.category]) (by decide) (by decide) dX4_init_1 ?_
  refine lv_iload_n hx hb dX4_init_4 rfl (lv_at hl 1 rfl) ?_
  refine n_iconst hC 5 dX4_init_5 ?_
  refine lv_icmp_ne (tgt := 13) hx hb dX4_init_6 (by decide) (fun c6 => ?_) (fun c6 => ?_)
  · refine n_iconst hC 3 dX4_init_13 ?_
    obtain ⟨hn5a, hf5⟩ := hn3 c6
    rw [show nI 3 = nI n by rw [hn5a]]
    have hnf : (n = 3 ∧ f = 1) ∨ (n = 5 ∧ f = 2) := by omega
    refine lv_istore_n (lv' := [(2, .int (nI n)), (0, .ref b), (1, .int nn)]) hx hb dX4_init_14 rfl hl (by decide) rfl (fun ls hl => ?_)
    refine q_new hC hG cF1 i1 (hts (.classLink RX4 7 RX1) (by decide +kernel)) (hts (.instantiable RX1 1) (by decide +kernel)) (hts (.initialized RX1) (by decide +kernel)) (by first | decide | (simp only [rmX4_init]; omega)) (by first | decide | (simp only [rmX4_init]; omega)) dX4_init_15 (fun H hG => ?_)
    rw [hn0]
    obtain ⟨Z1, h1⟩ : ∃ Z1, Z1 = nw X 2 0 := ⟨_, rfl⟩
    rw [← h1] at hG
    have n1 : nx Z1 = b + 2 := by rw [h1, nx_nw, hn0]
    have kb : kd Z1 b = 5 := by rw [h1, kd_nw_n (by omega)]; exact hk0
    refine lv_dup hx hb dX4_init_18 rfl ?_
    refine n_iconst hC 0 dX4_init_19 ?_
    refine q_newa hC hG 0 (by decide) (hts (.arrayClass .int) (by decide +kernel)) (by first | decide | (simp only [rmX4_init]; omega)) (by first | decide | (simp only [rmX4_init]; omega)) dX4_init_20 (fun H hG => ?_)
    rw [n1]
    obtain ⟨Z2, h2⟩ : ∃ Z2, Z2 = nw Z1 7 0 := ⟨_, rfl⟩
    rw [← h2] at hG
    have n2 : nx Z2 = b + 3 := by rw [h2, nx_nw, n1]
    have kb : kd Z2 b = 5 := by rw [h2, kd_nw_n (by omega)]; exact kb
    have k1 : kd Z2 (b + 1) = 2 := by rw [h2, kd_nw_n (by omega), h1]; exact kd_nw_e hn0.symm
    refine q_callI (rest := [.ref (b + 1)]) (k_X1_init l D cA A (X := Z2) (b + 1) (b + 2) k1) hC hG 1 gX4_init_X1_init rfl (hts (.initialized yX1_init.cls) (by decide +kernel)) (hts (.methodLink RX4 9 yX1_init) (by decide +kernel)) (hts (.instanceMethod yX1_init) (by decide +kernel)) rfl (by decide +kernel) ⟨by decide, by decide⟩ rfl hl.1 rfl (by simp [Value.category]) dX4_init_22 ⟨by decide, by decide⟩ (fun v Y H locs hq hG => ?_)
    obtain ⟨rfl, rfl⟩ := hq
    obtain ⟨Z3, h3⟩ : ∃ Z3, Z3 = wR Z2 (b + 1) 0 (some (b + 2)) := ⟨_, rfl⟩
    rw [← h3] at hG
    have n3 : nx Z3 = b + 3 := by rw [h3, nx_wR, n2]
    have kb : kd Z3 b = 5 := by rw [h3, kd_wR]; exact kb
    refine lv_astore_n (lv' := [(3, .ref (b + 1)), (2, .int (nI n)), (0, .ref b), (1, .int nn)]) hx hb dX4_init_25 rfl hl (by decide) rfl (fun ls hl => ?_)
    refine lv_aload_n hx hb dX4_init_26 rfl (lv_at hl 2 rfl) ?_
    refine q_new hC hG cF3 i3 (hts (.classLink RX4 12 RX3) (by decide +kernel)) (hts (.instantiable RX3 3) (by decide +kernel)) (hts (.initialized RX3) (by decide +kernel)) (by first | decide | (simp only [rmX4_init]; omega)) (by first | decide | (simp only [rmX4_init]; omega)) dX4_init_27 (fun H hG => ?_)
    rw [n3]
    obtain ⟨Z4, h4⟩ : ∃ Z4, Z4 = nw Z3 4 0 := ⟨_, rfl⟩
    rw [← h4] at hG
    have n4 : nx Z4 = b + 4 := by rw [h4, nx_nw, n3]
    have kb : kd Z4 b = 5 := by rw [h4, kd_nw_n (by omega)]; exact kb
    have k3 : kd Z4 (b + 3) = 4 := by rw [h4]; exact kd_nw_e n3.symm
    refine lv_dup hx hb dX4_init_30 rfl ?_
    refine q_callINE (rest := [.ref (b + 3), .ref b]) (k_X3_init l D cA A (X := Z4) (b + 3) k3 (by omega)) hC hG hE 0 gX4_init_X3_init_n14 rfl (hts (.initialized yX3_init.cls) (by decide +kernel)) hE.1 (hts (.instanceMethod yX3_init) (by decide +kernel)) rfl (by decide +kernel) ⟨by decide, by decide⟩ rfl hl.1 rfl (by simp [Value.category]) dX4_init_31 ⟨by decide, by decide⟩ (fun v Y H locs hq hG => ?_)
    obtain ⟨rfl, rfl⟩ := hq
    rw [n4] at hG
    obtain ⟨Z5, h5⟩ : ∃ Z5, Z5 = nw Z4 9 240 := ⟨_, rfl⟩
    rw [← h5] at hG
    obtain ⟨Z6, h6⟩ : ∃ Z6, Z6 = wR Z5 (b + 3) 0 (some (b + 4)) := ⟨_, rfl⟩
    rw [← h6] at hG
    have n6 : nx Z6 = b + 5 := by rw [h6, nx_wR, h5, nx_nw, n4]
    have kb : kd Z6 b = 5 := by rw [h6, kd_wR, h5, kd_nw_n (by omega)]; exact kb
    refine q_putr hC hG cF4 i4 kb 0 (by decide) rfl k15 (by first | exact Or.inl rfl | exact Or.inr ⟨hnm, rfl⟩) rfl rfl dX4_init_34 (fun H locs hG => ?_)
    obtain ⟨Z7, h7⟩ : ∃ Z7, Z7 = wR Z6 b 0 (some (b + 3)) := ⟨_, rfl⟩
    rw [← h7] at hG
    have n7 : nx Z7 = b + 5 := by rw [h7, nx_wR, n6]
    have kb : kd Z7 b = 5 := by rw [h7, kd_wR]; exact kb
    refine lv_aload_n hx hb dX4_init_37 rfl (lv_at hl 2 rfl) ?_
    refine lv_iload_n hx hb dX4_init_38 rfl (lv_at hl 1 rfl) ?_
    refine q_newN hC hG n (by omega) (hts (.classLink RX4 21 RX2) (by decide +kernel)) (va_AO.use hE.2.2) (by first | decide | (simp only [rmX4_init]; omega)) (by first | decide | (simp only [rmX4_init]; omega)) dX4_init_39 (fun H hG => ?_)
    rw [n7]
    refine q_putr hC hG cF4 i4 ((kd_nw_n (by omega)).trans kb) 1 (by decide) rfl k23 (by first | exact Or.inl rfl | exact Or.inr ⟨hnm, rfl⟩) rfl rfl dX4_init_42 (fun H locs hG => ?_)
    have hI := CI_0 (f := f) hn0 hk0 h1 h2 h3 h4 h5 h6 h7 rfl rfl (n := n)
    generalize wR (nw Z7 10 n) b 1 (some (b + 5)) = Z at hG hI
    refine n_iconst hC 0 dX4_init_45 ?_
    refine lv_istore (lv' := [(4, .int (nI 0)), (3, .ref (b + 1)), (2, .int (nI n)), (0, .ref b), (1, .int nn)]) hx hb dX4_init_46 hl (by decide) rfl (fun ls hl => ?_)
    have loop : ∀ (d : Nat) (i : Nat) (Z : Mem) (H : Heap) (locs : List Loc) (ls : Array Slot), n - i < d → i ≤ n → CI b n f X i Z → gw D cA A (Z) s.heap H locs → lv_has ls 5 [(0, .ref b), (1, .int nn), (2, .int (nI n)), (3, .ref (b + 1)), (4, .int (nI i))] → W p l e rmX4_init s m args below meth c H locs (5 + 5 * i) (249 + 40 * i) (MQ below (mQ D cA A (fun v Y => v = none ∧ CF b n f X Y)) args s rmX4_init.cells rmX4_init.slots A) (F0 m 48 ls []) := by
      intro d
      induction d with
      | zero => intro i Z H locs ls hd; exact absurd hd (Nat.not_lt_zero _)
      | succ d ih =>
        intro i Z H locs ls hd hin hI hG hl
        refine lv_iload hx hb dX4_init_48 (lv_at hl 4 rfl) ?_
        refine lv_iload_n hx hb dX4_init_50 rfl (lv_at hl 2 rfl) ?_
        refine n_ge (tgt := 82) hC dX4_init_51 (by decide) (by omega) (by omega) (fun c51 => ?_) (fun c51 => ?_)
        · have c51n := Nat.not_lt.mpr c51
          have ein : i = n := by omega
          rw [ein] at hI
          have hnZ := hI.1
          have hnn : n * n ≤ 25 := by rcases hnf with ⟨h, -⟩ | ⟨h, -⟩ <;> rw [h] <;> decide
          refine lv_aload_n hx hb dX4_init_82 rfl (lv_at hl 0 rfl) ?_
          refine lv_iload_n hx hb dX4_init_83 rfl (lv_at hl 2 rfl) ?_
          refine lv_iload_n hx hb dX4_init_84 rfl (lv_at hl 2 rfl) ?_
          refine n_imul hC dX4_init_85 ?_
          refine q_newz hC hG (n * n) (by omega) (hts (.arrayClass .boolean) (by decide +kernel)) (by first | decide | (simp only [rmX4_init]; omega)) (by first | decide | (simp only [rmX4_init]; omega)) dX4_init_86 (fun H hG => ?_)
          refine q_putr hC hG cF4 i4 ((kd_nw_n (by have := hI.1; omega)).trans hI.2.2.1.1) 2 (by decide) rfl k30 (by first | exact Or.inl rfl | exact Or.inr ⟨hnm, rfl⟩) rfl rfl dX4_init_88 (fun H locs hG => ?_)
          exact q_vret hC hG hr hlk (⟨rfl, Z, hI, rfl⟩) dX4_init_91 (h1 := by simp only [rmX4_init]; omega) (h2 := by simp only [rmX4_init]; omega)
        · have c51n := Nat.not_le.mpr c51
          refine lv_aload_n hx hb dX4_init_54 rfl (lv_at hl 0 rfl) ?_
          refine q_getr hC hG cF4 i4 (hI.2.2.1.1) 1 (by decide) rfl (hI.2.2.1.2.2) k23 dX4_init_55 ?_
          refine lv_iload hx hb dX4_init_58 (lv_at hl 4 rfl) ?_
          have hnZ := hI.1
          refine q_new hC hG cF2 i2 (hts (.classLink RX4 21 RX2) (by decide +kernel)) (hts (.instantiable RX2 17) (by decide +kernel)) (hts (.initialized RX2) (by decide +kernel)) (by first | decide | (simp only [rmX4_init]; omega)) (by first | decide | (simp only [rmX4_init]; omega)) dX4_init_60 (fun H hG => ?_)
          refine lv_dup hx hb dX4_init_63 rfl ?_
          refine lv_iload hx hb dX4_init_64 (lv_at hl 4 rfl) ?_
          refine lv_iload_n hx hb dX4_init_66 rfl (lv_at hl 2 rfl) ?_
          refine lv_aload_n hx hb dX4_init_67 rfl (lv_at hl 0 rfl) ?_
          refine q_getr hC hG cF4 i4 ((kd_nw_n (by omega)).trans hI.2.2.1.1) 0 (by decide) rfl ((rv_nw_n (by omega)).trans hI.2.2.1.2.1) k15 dX4_init_68 ?_
          refine lv_aload_n hx hb dX4_init_71 rfl (lv_at hl 3 rfl) ?_
          refine q_callIE (rest := [.ref (nx Z), .int (nI i), .ref (b + 5)]) (k_X2_init l D cA A (X := nw Z 3 0) (nx Z) i n f (b + 3) (b + 1) (kd_nw_e rfl) (by rw [nx_nw]; omega) hnf (by omega)) hC hG hE 4 gX4_init_X2_init rfl (hts (.initialized yX2_init.cls) (by decide +kernel)) (hts (.methodLink RX4 27 yX2_init) (by decide +kernel)) (hts (.instanceMethod yX2_init) (by decide +kernel)) rfl (by decide +kernel) ⟨by decide, by decide⟩ rfl hl.1 rfl (by simp [Value.category]) dX4_init_72 ⟨by simp only [rmX2_init, rmX4_init]; omega, by simp only [rmX2_init, rmX4_init]; omega⟩ (fun v Y H locs hq hG => ?_)
          obtain ⟨rfl, hN⟩ := hq
          have hN0 := hN
          have hny := hN.1
          refine q_aast (n := n) hC hG (Or.inr ⟨((hN.2.1 (b + 5) (by rw [nx_nw]; omega)).1.trans (kd_nw_n (by omega))).trans hI.2.2.2.2.2.1.1, ((hN.2.1 (nx Z) (by rw [nx_nw]; omega)).1.trans (kd_nw_e rfl))⟩) (((hN.2.1 (b + 5) (by rw [nx_nw]; omega)).2.1.trans (ln_nw_n (by omega))).trans hI.2.2.2.2.2.1.2.1) (by omega) (by omega) dX4_init_75 (fun H locs hG => ?_)
          have hI := CI_s hI rfl hN
          generalize wR Y (b + 5) i (some (nx Z)) = Z at hG hI
          refine n_iinc (n := 1) (k := 4) (lv' := [(4, .int (nI (i + 1))), (0, .ref b), (1, .int nn), (2, .int (nI n)), (3, .ref (b + 1))]) hC dX4_init_76 hl rfl (by decide) rfl (fun ls hl => ?_)
          refine lv_goto (tgt := 48) hx hb dX4_init_79 (by decide) ?_
          refine W.widen (k := 5 + 5 * (i + 1)) (n := 249 + 40 * (i + 1)) (by simp only [rmX2_init]; omega) (by simp only [rmX2_init]; omega) ?_
          exact ih (i + 1) _ _ _ _ (by omega) (by omega) hI hG (lv_sub hl [1, 2, 3, 4, 0] rfl)
    refine W.widen (k := 5 + 5 * 0) (n := 249 + 40 * 0) (by first | decide | (simp only [rmX1_init, rmX3_init]; omega)) (by first | decide | (simp only [rmX1_init, rmX3_init]; omega)) ?_
    exact loop (n + 1) 0 Z _ _ _ (by omega) (by omega) hI hG (lv_sub hl [3, 4, 2, 1, 0] rfl)
  · refine n_iconst hC 5 dX4_init_9 ?_
    refine lv_goto (tgt := 14) hx hb dX4_init_10 (by decide) ?_
    obtain ⟨hn5a, hf5⟩ := hn5 c6
    rw [show nI 5 = nI n by rw [hn5a]]
    have hnf : (n = 3 ∧ f = 1) ∨ (n = 5 ∧ f = 2) := by omega
    refine lv_istore_n (lv' := [(2, .int (nI n)), (0, .ref b), (1, .int nn)]) hx hb dX4_init_14 rfl hl (by decide) rfl (fun ls hl => ?_)
    refine q_new hC hG cF1 i1 (hts (.classLink RX4 7 RX1) (by decide +kernel)) (hts (.instantiable RX1 1) (by decide +kernel)) (hts (.initialized RX1) (by decide +kernel)) (by first | decide | (simp only [rmX4_init]; omega)) (by first | decide | (simp only [rmX4_init]; omega)) dX4_init_15 (fun H hG => ?_)
    rw [hn0]
    obtain ⟨Z1, h1⟩ : ∃ Z1, Z1 = nw X 2 0 := ⟨_, rfl⟩
    rw [← h1] at hG
    have n1 : nx Z1 = b + 2 := by rw [h1, nx_nw, hn0]
    have kb : kd Z1 b = 5 := by rw [h1, kd_nw_n (by omega)]; exact hk0
    refine lv_dup hx hb dX4_init_18 rfl ?_
    refine n_iconst hC 0 dX4_init_19 ?_
    refine q_newa hC hG 0 (by decide) (hts (.arrayClass .int) (by decide +kernel)) (by first | decide | (simp only [rmX4_init]; omega)) (by first | decide | (simp only [rmX4_init]; omega)) dX4_init_20 (fun H hG => ?_)
    rw [n1]
    obtain ⟨Z2, h2⟩ : ∃ Z2, Z2 = nw Z1 7 0 := ⟨_, rfl⟩
    rw [← h2] at hG
    have n2 : nx Z2 = b + 3 := by rw [h2, nx_nw, n1]
    have kb : kd Z2 b = 5 := by rw [h2, kd_nw_n (by omega)]; exact kb
    have k1 : kd Z2 (b + 1) = 2 := by rw [h2, kd_nw_n (by omega), h1]; exact kd_nw_e hn0.symm
    refine q_callI (rest := [.ref (b + 1)]) (k_X1_init l D cA A (X := Z2) (b + 1) (b + 2) k1) hC hG 1 gX4_init_X1_init rfl (hts (.initialized yX1_init.cls) (by decide +kernel)) (hts (.methodLink RX4 9 yX1_init) (by decide +kernel)) (hts (.instanceMethod yX1_init) (by decide +kernel)) rfl (by decide +kernel) ⟨by decide, by decide⟩ rfl hl.1 rfl (by simp [Value.category]) dX4_init_22 ⟨by decide, by decide⟩ (fun v Y H locs hq hG => ?_)
    obtain ⟨rfl, rfl⟩ := hq
    obtain ⟨Z3, h3⟩ : ∃ Z3, Z3 = wR Z2 (b + 1) 0 (some (b + 2)) := ⟨_, rfl⟩
    rw [← h3] at hG
    have n3 : nx Z3 = b + 3 := by rw [h3, nx_wR, n2]
    have kb : kd Z3 b = 5 := by rw [h3, kd_wR]; exact kb
    refine lv_astore_n (lv' := [(3, .ref (b + 1)), (2, .int (nI n)), (0, .ref b), (1, .int nn)]) hx hb dX4_init_25 rfl hl (by decide) rfl (fun ls hl => ?_)
    refine lv_aload_n hx hb dX4_init_26 rfl (lv_at hl 2 rfl) ?_
    refine q_new hC hG cF3 i3 (hts (.classLink RX4 12 RX3) (by decide +kernel)) (hts (.instantiable RX3 3) (by decide +kernel)) (hts (.initialized RX3) (by decide +kernel)) (by first | decide | (simp only [rmX4_init]; omega)) (by first | decide | (simp only [rmX4_init]; omega)) dX4_init_27 (fun H hG => ?_)
    rw [n3]
    obtain ⟨Z4, h4⟩ : ∃ Z4, Z4 = nw Z3 4 0 := ⟨_, rfl⟩
    rw [← h4] at hG
    have n4 : nx Z4 = b + 4 := by rw [h4, nx_nw, n3]
    have kb : kd Z4 b = 5 := by rw [h4, kd_nw_n (by omega)]; exact kb
    have k3 : kd Z4 (b + 3) = 4 := by rw [h4]; exact kd_nw_e n3.symm
    refine lv_dup hx hb dX4_init_30 rfl ?_
    refine q_callINE (rest := [.ref (b + 3), .ref b]) (k_X3_init l D cA A (X := Z4) (b + 3) k3 (by omega)) hC hG hE 0 gX4_init_X3_init_n14 rfl (hts (.initialized yX3_init.cls) (by decide +kernel)) hE.1 (hts (.instanceMethod yX3_init) (by decide +kernel)) rfl (by decide +kernel) ⟨by decide, by decide⟩ rfl hl.1 rfl (by simp [Value.category]) dX4_init_31 ⟨by decide, by decide⟩ (fun v Y H locs hq hG => ?_)
    obtain ⟨rfl, rfl⟩ := hq
    rw [n4] at hG
    obtain ⟨Z5, h5⟩ : ∃ Z5, Z5 = nw Z4 9 240 := ⟨_, rfl⟩
    rw [← h5] at hG
    obtain ⟨Z6, h6⟩ : ∃ Z6, Z6 = wR Z5 (b + 3) 0 (some (b + 4)) := ⟨_, rfl⟩
    rw [← h6] at hG
    have n6 : nx Z6 = b + 5 := by rw [h6, nx_wR, h5, nx_nw, n4]
    have kb : kd Z6 b = 5 := by rw [h6, kd_wR, h5, kd_nw_n (by omega)]; exact kb
    refine q_putr hC hG cF4 i4 kb 0 (by decide) rfl k15 (by first | exact Or.inl rfl | exact Or.inr ⟨hnm, rfl⟩) rfl rfl dX4_init_34 (fun H locs hG => ?_)
    obtain ⟨Z7, h7⟩ : ∃ Z7, Z7 = wR Z6 b 0 (some (b + 3)) := ⟨_, rfl⟩
    rw [← h7] at hG
    have n7 : nx Z7 = b + 5 := by rw [h7, nx_wR, n6]
    have kb : kd Z7 b = 5 := by rw [h7, kd_wR]; exact kb
    refine lv_aload_n hx hb dX4_init_37 rfl (lv_at hl 2 rfl) ?_
    refine lv_iload_n hx hb dX4_init_38 rfl (lv_at hl 1 rfl) ?_
    refine q_newN hC hG n (by omega) (hts (.classLink RX4 21 RX2) (by decide +kernel)) (va_AO.use hE.2.2) (by first | decide | (simp only [rmX4_init]; omega)) (by first | decide | (simp only [rmX4_init]; omega)) dX4_init_39 (fun H hG => ?_)
    rw [n7]
    refine q_putr hC hG cF4 i4 ((kd_nw_n (by omega)).trans kb) 1 (by decide) rfl k23 (by first | exact Or.inl rfl | exact Or.inr ⟨hnm, rfl⟩) rfl rfl dX4_init_42 (fun H locs hG => ?_)
    have hI := CI_0 (f := f) hn0 hk0 h1 h2 h3 h4 h5 h6 h7 rfl rfl (n := n)
    generalize wR (nw Z7 10 n) b 1 (some (b + 5)) = Z at hG hI
    refine n_iconst hC 0 dX4_init_45 ?_
    refine lv_istore (lv' := [(4, .int (nI 0)), (3, .ref (b + 1)), (2, .int (nI n)), (0, .ref b), (1, .int nn)]) hx hb dX4_init_46 hl (by decide) rfl (fun ls hl => ?_)
    have loop : ∀ (d : Nat) (i : Nat) (Z : Mem) (H : Heap) (locs : List Loc) (ls : Array Slot), n - i < d → i ≤ n → CI b n f X i Z → gw D cA A (Z) s.heap H locs → lv_has ls 5 [(0, .ref b), (1, .int nn), (2, .int (nI n)), (3, .ref (b + 1)), (4, .int (nI i))] → W p l e rmX4_init s m args below meth c H locs (5 + 5 * i) (249 + 40 * i) (MQ below (mQ D cA A (fun v Y => v = none ∧ CF b n f X Y)) args s rmX4_init.cells rmX4_init.slots A) (F0 m 48 ls []) := by
      intro d
      induction d with
      | zero => intro i Z H locs ls hd; exact absurd hd (Nat.not_lt_zero _)
      | succ d ih =>
        intro i Z H locs ls hd hin hI hG hl
        refine lv_iload hx hb dX4_init_48 (lv_at hl 4 rfl) ?_
        refine lv_iload_n hx hb dX4_init_50 rfl (lv_at hl 2 rfl) ?_
        refine n_ge (tgt := 82) hC dX4_init_51 (by decide) (by omega) (by omega) (fun c51 => ?_) (fun c51 => ?_)
        · have c51n := Nat.not_lt.mpr c51
          have ein : i = n := by omega
          rw [ein] at hI
          have hnZ := hI.1
          have hnn : n * n ≤ 25 := by rcases hnf with ⟨h, -⟩ | ⟨h, -⟩ <;> rw [h] <;> decide
          refine lv_aload_n hx hb dX4_init_82 rfl (lv_at hl 0 rfl) ?_
          refine lv_iload_n hx hb dX4_init_83 rfl (lv_at hl 2 rfl) ?_
          refine lv_iload_n hx hb dX4_init_84 rfl (lv_at hl 2 rfl) ?_
          refine n_imul hC dX4_init_85 ?_
          refine q_newz hC hG (n * n) (by omega) (hts (.arrayClass .boolean) (by decide +kernel)) (by first | decide | (simp only [rmX4_init]; omega)) (by first | decide | (simp only [rmX4_init]; omega)) dX4_init_86 (fun H hG => ?_)
          refine q_putr hC hG cF4 i4 ((kd_nw_n (by have := hI.1; omega)).trans hI.2.2.1.1) 2 (by decide) rfl k30 (by first | exact Or.inl rfl | exact Or.inr ⟨hnm, rfl⟩) rfl rfl dX4_init_88 (fun H locs hG => ?_)
          exact q_vret hC hG hr hlk (⟨rfl, Z, hI, rfl⟩) dX4_init_91 (h1 := by simp only [rmX4_init]; omega) (h2 := by simp only [rmX4_init]; omega)
        · have c51n := Nat.not_le.mpr c51
          refine lv_aload_n hx hb dX4_init_54 rfl (lv_at hl 0 rfl) ?_
          refine q_getr hC hG cF4 i4 (hI.2.2.1.1) 1 (by decide) rfl (hI.2.2.1.2.2) k23 dX4_init_55 ?_
          refine lv_iload hx hb dX4_init_58 (lv_at hl 4 rfl) ?_
          have hnZ := hI.1
          refine q_new hC hG cF2 i2 (hts (.classLink RX4 21 RX2) (by decide +kernel)) (hts (.instantiable RX2 17) (by decide +kernel)) (hts (.initialized RX2) (by decide +kernel)) (by first | decide | (simp only [rmX4_init]; omega)) (by first | decide | (simp only [rmX4_init]; omega)) dX4_init_60 (fun H hG => ?_)
          refine lv_dup hx hb dX4_init_63 rfl ?_
          refine lv_iload hx hb dX4_init_64 (lv_at hl 4 rfl) ?_
          refine lv_iload_n hx hb dX4_init_66 rfl (lv_at hl 2 rfl) ?_
          refine lv_aload_n hx hb dX4_init_67 rfl (lv_at hl 0 rfl) ?_
          refine q_getr hC hG cF4 i4 ((kd_nw_n (by omega)).trans hI.2.2.1.1) 0 (by decide) rfl ((rv_nw_n (by omega)).trans hI.2.2.1.2.1) k15 dX4_init_68 ?_
          refine lv_aload_n hx hb dX4_init_71 rfl (lv_at hl 3 rfl) ?_
          refine q_callIE (rest := [.ref (nx Z), .int (nI i), .ref (b + 5)]) (k_X2_init l D cA A (X := nw Z 3 0) (nx Z) i n f (b + 3) (b + 1) (kd_nw_e rfl) (by rw [nx_nw]; omega) hnf (by omega)) hC hG hE 4 gX4_init_X2_init rfl (hts (.initialized yX2_init.cls) (by decide +kernel)) (hts (.methodLink RX4 27 yX2_init) (by decide +kernel)) (hts (.instanceMethod yX2_init) (by decide +kernel)) rfl (by decide +kernel) ⟨by decide, by decide⟩ rfl hl.1 rfl (by simp [Value.category]) dX4_init_72 ⟨by simp only [rmX2_init, rmX4_init]; omega, by simp only [rmX2_init, rmX4_init]; omega⟩ (fun v Y H locs hq hG => ?_)
          obtain ⟨rfl, hN⟩ := hq
          have hN0 := hN
          have hny := hN.1
          refine q_aast (n := n) hC hG (Or.inr ⟨((hN.2.1 (b + 5) (by rw [nx_nw]; omega)).1.trans (kd_nw_n (by omega))).trans hI.2.2.2.2.2.1.1, ((hN.2.1 (nx Z) (by rw [nx_nw]; omega)).1.trans (kd_nw_e rfl))⟩) (((hN.2.1 (b + 5) (by rw [nx_nw]; omega)).2.1.trans (ln_nw_n (by omega))).trans hI.2.2.2.2.2.1.2.1) (by omega) (by omega) dX4_init_75 (fun H locs hG => ?_)
          have hI := CI_s hI rfl hN
          generalize wR Y (b + 5) i (some (nx Z)) = Z at hG hI
          refine n_iinc (n := 1) (k := 4) (lv' := [(4, .int (nI (i + 1))), (0, .ref b), (1, .int nn), (2, .int (nI n)), (3, .ref (b + 1))]) hC dX4_init_76 hl rfl (by decide) rfl (fun ls hl => ?_)
          refine lv_goto (tgt := 48) hx hb dX4_init_79 (by decide) ?_
          refine W.widen (k := 5 + 5 * (i + 1)) (n := 249 + 40 * (i + 1)) (by simp only [rmX2_init]; omega) (by simp only [rmX2_init]; omega) ?_
          exact ih (i + 1) _ _ _ _ (by omega) (by omega) hI hG (lv_sub hl [1, 2, 3, 4, 0] rfl)
    refine W.widen (k := 5 + 5 * 0) (n := 249 + 40 * 0) (by first | decide | (simp only [rmX1_init, rmX3_init]; omega)) (by first | decide | (simp only [rmX1_init, rmX3_init]; omega)) ?_
    exact loop (n + 1) 0 Z _ _ _ (by omega) (by omega) hI hG (lv_sub hl [3, 4, 2, 1, 0] rfl)
