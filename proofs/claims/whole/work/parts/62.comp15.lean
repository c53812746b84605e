/-! the reference's constructor -/
def mR (x : Nat) : Nat → Option (Option Nat) := va_up (va_up (va_up (va_up (va_up (va_up (va_up (va_up (va_up (va_up (va_up (va_up (va_up (va_up (va_up (va_up (va_up (va_up (va_up (va_up (va_up (va_up (fun _ => none) 2 (some (some x))) 3 (some (some (x + 1)))) 4 (some (some (x + 2)))) 5 (some (some (x + 3)))) 6 (some (some (x + 4)))) 7 (some (some (x + 5)))) 8 (some (some (x + 6)))) 9 (some (some (x + 7)))) 10 (some (some (x + 8)))) 11 (some (some (x + 9)))) 12 (some (some (x + 10)))) 13 (some (some (x + 11)))) 14 (some (some (x + 12)))) 15 (some (some (x + 13)))) 16 (some (some (x + 14)))) 19 (some (some (x + 15)))) 20 (some (some (x + 16)))) 21 (some (some (x + 17)))) 22 (some (some (x + 18)))) 23 (some (some (x + 19)))) 24 (some (some (x + 20)))) 25 (some (some (x + 21)))
def mLs : Nat → Nat × Nat := va_up (va_up (va_up (va_up (va_up (va_up (va_up (va_up (va_up (va_up (va_up (va_up (va_up (va_up (va_up (va_up (va_up (va_up (va_up (va_up (va_up (va_up (fun _ => (0, 0)) 0 (7, 28320)) 1 (7, 295)) 2 (7, 295)) 3 (7, 5)) 4 (7, 5)) 5 (7, 5)) 6 (8, 5)) 7 (7, 5)) 8 (7, 25)) 9 (8, 25)) 10 (8, 25)) 11 (7, 25)) 12 (8, 25)) 13 (7, 25)) 14 (8, 25)) 15 (7, 240)) 16 (7, 240)) 17 (7, 240)) 18 (7, 240)) 19 (7, 240)) 20 (8, 240)) 21 (7, 8)
def mIi (n f : Nat) : Nat → Option Nat := va_up (va_up (fun _ => none) 0 (some n)) 1 (some f)
theorem ak_in {k : Nat} (h : ak k = true) : 2 ≤ k ∧ k ≤ 25 ∧ k ≠ 17 ∧ k ≠ 18 := by
  simp only [ak, Bool.and_eq_true, Nat.ble_eq, Bool.not_eq_true', beq_eq_false_iff_ne] at h
  omega
set_option maxRecDepth 20000 in
theorem mR_at (x : Nat) {k : Nat} (h : ak k = true) : mR x k = some (some (x + (ao k - 1))) ∧ mLs (ao k - 1) = (if bo k = true then 8 else 7, az k) ∧ ao k - 1 < 22 ∧ 1 ≤ ao k := by
  have h1 := ak_in h
  rcases (show k = 2 ∨ k = 3 ∨ k = 4 ∨ k = 5 ∨ k = 6 ∨ k = 7 ∨ k = 8 ∨ k = 9 ∨ k = 10 ∨ k = 11 ∨ k = 12 ∨ k = 13 ∨ k = 14 ∨ k = 15 ∨ k = 16 ∨ k = 19 ∨ k = 20 ∨ k = 21 ∨ k = 22 ∨ k = 23 ∨ k = 24 ∨ k = 25 by omega) with rfl | rfl | rfl | rfl | rfl | rfl | rfl | rfl | rfl | rfl | rfl | rfl | rfl | rfl | rfl | rfl | rfl | rfl | rfl | rfl | rfl | rfl
  all_goals exact ⟨rfl, rfl, by decide, by decide⟩

abbrev rmX5_init : Room := { frames := 1, cells := 22, slots := 30558, locals := 20 }
set_option maxHeartbeats 4000000 in
set_option maxRecDepth 100000 in
theorem k_X5_init (l : Launch) (D : va_G) (cA : Nat → ClassId) (A : Nat → Prop) {X : Mem} (q n f : Nat) (nn : Int32) (hk0 : kd X q = 6) (hq0 : q < nx X) (hn5 : nn = nI 5 → n = 5 ∧ f = 2) (hn3 : nn ≠ nI 5 → n = 3 ∧ f = 1) : mt l D cA A yX5_init wsX5_init rmX5_init [.ref q, .int nn] (X) (fun v Y => v = none ∧ NB X q 22 (mR (nx X)) (mIi n f) mLs Y) := by
  refine q_start (by decide) rfl (Nat.le_of_ble_eq_true rfl) (fun p e s m args below meth c H locs hC hr hlk hnm hG ls hl => ?_)
  have hl : lv_has ls 2 [(0, .ref q), (1, .int nn)] := hl
  have hx := hC.1.1
  have hb := hC.1.2.1
  have hts := hC.1.2.2.2.2
  have i5 : ∀ w ∈ wsX50, w ∈ wsX5_init := by decide +kernel
  have hN := NB_0 X q (fun _ => (0, 0))
  obtain ⟨Z, hZ⟩ : ∃ Z, Z = X := ⟨_, rfl⟩
  rw [← hZ] at hG
  have hN : NB X q 0 (fun _ => none) (fun _ => none) (fun _ => (0, 0)) Z := by rw [hZ]; exact hN
  clear hZ
  have k7 := hts (.fieldLink RX5 7 "ViewStampsModel" "logs" "[I") (by decide +kernel)
  have k13 := hts (.fieldLink RX5 13 "ViewStampsModel" "many" "[I") (by decide +kernel)
  have k16 := hts (.fieldLink RX5 16 "ViewStampsModel" "sure" "[I") (by decide +kernel)
  have k19 := hts (.fieldLink RX5 19 "ViewStampsModel" "status" "[I") (by decide +kernel)
  have k22 := hts (.fieldLink RX5 22 "ViewStampsModel" "view" "[I") (by decide +kernel)
  have k25 := hts (.fieldLink RX5 25 "ViewStampsModel" "lastView" "[I") (by decide +kernel)
  have k28 := hts (.fieldLink RX5 28 "ViewStampsModel" "voted" "[Z") (by decide +kernel)
  have k32 := hts (.fieldLink RX5 32 "ViewStampsModel" "nonce" "[I") (by decide +kernel)
  have k35 := hts (.fieldLink RX5 35 "ViewStampsModel" "knows" "[I") (by decide +kernel)
  have k38 := hts (.fieldLink RX5 38 "ViewStampsModel" "isVoter" "[Z") (by decide +kernel)
  have k41 := hts (.fieldLink RX5 41 "ViewStampsModel" "hasVote" "[Z") (by decide +kernel)
  have k44 := hts (.fieldLink RX5 44 "ViewStampsModel" "voteCount" "[I") (by decide +kernel)
  have k47 := hts (.fieldLink RX5 47 "ViewStampsModel" "hasTale" "[Z") (by decide +kernel)
  have k50 := hts (.fieldLink RX5 50 "ViewStampsModel" "taleView" "[I") (by decide +kernel)
  have k53 := hts (.fieldLink RX5 53 "ViewStampsModel" "isCut" "[Z") (by decide +kernel)
  have k56 := hts (.fieldLink RX5 56 "ViewStampsModel" "from" "[I") (by decide +kernel)
  have k59 := hts (.fieldLink RX5 59 "ViewStampsModel" "to" "[I") (by decide +kernel)
  have k62 := hts (.fieldLink RX5 62 "ViewStampsModel" "sort" "[I") (by decide +kernel)
  have k65 := hts (.fieldLink RX5 65 "ViewStampsModel" "letterView" "[I") (by decide +kernel)
  have k68 := hts (.fieldLink RX5 68 "ViewStampsModel" "counts" "[I") (by decide +kernel)
  have k71 := hts (.fieldLink RX5 71 "ViewStampsModel" "dropped" "[Z") (by decide +kernel)
  have k74 := hts (.fieldLink RX5 74 "ViewStampsModel" "registers" "[I") (by decide +kernel)
  have k77 := hts (.fieldLink RX5 77 "ViewStampsModel" "n" "I") (by decide +kernel)
  have k81 := hts (.fieldLink RX5 81 "ViewStampsModel" "f" "I") (by decide +kernel)
  refine lv_aload_n hx hb dX5_init_0 rfl (lv_at hl 0 rfl) ?_
  refine q_obj hC (hts (.methodLink RX5 1 objectInit) (by decide +kernel)) (hts (.instanceMethod objectInit) (by decide +kernel)) (hts (.code objectInit ⟨#[0xb1]⟩ 1 none) (by decide +kernel)) hl.1 (by simp [Value.category]) (by decide) (by decide) dX5_init_1 ?_
  refine lv_aload_n hx hb dX5_init_4 rfl (lv_at hl 0 rfl) ?_
  refine n_sipush hC 28320 (by decide +kernel) dX5_init_5 ?_
  refine q_newa hC hG (28320) (by omega) (hts (.arrayClass .int) (by decide +kernel)) (by first | decide | (simp only [rmX5_init]; omega)) (by first | decide | (simp only [rmX5_init]; omega)) dX5_init_8 (fun H hG => ?_)
  rw [show nx Z = nx X from hN.1]
  have hN := NB_nw hN hq0 7 28320
  generalize nw Z 7 28320 = Z at hG hN
  refine q_putr hC hG cF5 i5 (NB_kd hN hq0 hk0) 2 (by decide) rfl k7 (by first | exact Or.inl rfl | exact Or.inr ⟨hnm, rfl⟩) rfl rfl dX5_init_10 (fun H locs hG => ?_)
  have hN := NB_wR hN hq0 2 (some (nx X))
  generalize wR Z q 2 (some (nx X)) = Z at hG hN
  refine lv_aload_n hx hb dX5_init_13 rfl (lv_at hl 0 rfl) ?_
  refine n_sipush hC 295 (by decide +kernel) dX5_init_14 ?_
  refine q_newa hC hG (295) (by omega) (hts (.arrayClass .int) (by decide +kernel)) (by first | decide | (simp only [rmX5_init]; omega)) (by first | decide | (simp only [rmX5_init]; omega)) dX5_init_17 (fun H hG => ?_)
  rw [show nx Z = nx X + 1 from hN.1]
  have hN := NB_nw hN hq0 7 295
  generalize nw Z 7 295 = Z at hG hN
  refine q_putr hC hG cF5 i5 (NB_kd hN hq0 hk0) 3 (by decide) rfl k13 (by first | exact Or.inl rfl | exact Or.inr ⟨hnm, rfl⟩) rfl rfl dX5_init_19 (fun H locs hG => ?_)
  have hN := NB_wR hN hq0 3 (some (nx X + 1))
  generalize wR Z q 3 (some (nx X + 1)) = Z at hG hN
  refine lv_aload_n hx hb dX5_init_22 rfl (lv_at hl 0 rfl) ?_
  refine n_sipush hC 295 (by decide +kernel) dX5_init_23 ?_
  refine q_newa hC hG (295) (by omega) (hts (.arrayClass .int) (by decide +kernel)) (by first | decide | (simp only [rmX5_init]; omega)) (by first | decide | (simp only [rmX5_init]; omega)) dX5_init_26 (fun H hG => ?_)
  rw [show nx Z = nx X + 2 from hN.1]
  have hN := NB_nw hN hq0 7 295
  generalize nw Z 7 295 = Z at hG hN
  refine q_putr hC hG cF5 i5 (NB_kd hN hq0 hk0) 4 (by decide) rfl k16 (by first | exact Or.inl rfl | exact Or.inr ⟨hnm, rfl⟩) rfl rfl dX5_init_28 (fun H locs hG => ?_)
  have hN := NB_wR hN hq0 4 (some (nx X + 2))
  generalize wR Z q 4 (some (nx X + 2)) = Z at hG hN
  refine lv_aload_n hx hb dX5_init_31 rfl (lv_at hl 0 rfl) ?_
  refine n_iconst hC 5 dX5_init_32 ?_
  refine q_newa hC hG (5) (by omega) (hts (.arrayClass .int) (by decide +kernel)) (by first | decide | (simp only [rmX5_init]; omega)) (by first | decide | (simp only [rmX5_init]; omega)) dX5_init_33 (fun H hG => ?_)
  rw [show nx Z = nx X + 3 from hN.1]
  have hN := NB_nw hN hq0 7 5
  generalize nw Z 7 5 = Z at hG hN
  refine q_putr hC hG cF5 i5 (NB_kd hN hq0 hk0) 5 (by decide) rfl k19 (by first | exact Or.inl rfl | exact Or.inr ⟨hnm, rfl⟩) rfl rfl dX5_init_35 (fun H locs hG => ?_)
  have hN := NB_wR hN hq0 5 (some (nx X + 3))
  generalize wR Z q 5 (some (nx X + 3)) = Z at hG hN
  refine lv_aload_n hx hb dX5_init_38 rfl (lv_at hl 0 rfl) ?_
  refine n_iconst hC 5 dX5_init_39 ?_
  refine q_newa hC hG (5) (by omega) (hts (.arrayClass .int) (by decide +kernel)) (by first | decide | (simp only [rmX5_init]; omega)) (by first | decide | (simp only [rmX5_init]; omega)) dX5_init_40 (fun H hG => ?_)
  rw [show nx Z = nx X + 4 from hN.1]
  have hN := NB_nw hN hq0 7 5
  generalize nw Z 7 5 = Z at hG hN
  refine q_putr hC hG cF5 i5 (NB_kd hN hq0 hk0) 6 (by decide) rfl k22 (by first | exact Or.inl rfl | exact Or.inr ⟨hnm, rfl⟩) rfl rfl dX5_init_42 (fun H locs hG => ?_)
  have hN := NB_wR hN hq0 6 (some (nx X + 4))
  generalize wR Z q 6 (some (nx X + 4)) = Z at hG hN
  refine lv_aload_n hx hb dX5_init_45 rfl (lv_at hl 0 rfl) ?_
  refine n_iconst hC 5 dX5_init_46 ?_
  refine q_newa hC hG (5) (by omega) (hts (.arrayClass .int) (by decide +kernel)) (by first | decide | (simp only [rmX5_init]; omega)) (by first | decide | (simp only [rmX5_init]; omega)) dX5_init_47 (fun H hG => ?_)
  rw [show nx Z = nx X + 5 from hN.1]
  have hN := NB_nw hN hq0 7 5
  generalize nw Z 7 5 = Z at hG hN
  refine q_putr hC hG cF5 i5 (NB_kd hN hq0 hk0) 7 (by decide) rfl k25 (by first | exact Or.inl rfl | exact Or.inr ⟨hnm, rfl⟩) rfl rfl dX5_init_49 (fun H locs hG => ?_)
  have hN := NB_wR hN hq0 7 (some (nx X + 5))
  generalize wR Z q 7 (some (nx X + 5)) = Z at hG hN
  refine lv_aload_n hx hb dX5_init_52 rfl (lv_at hl 0 rfl) ?_
  refine n_iconst hC 5 dX5_init_53 ?_
  refine q_newz hC hG (5) (by omega) (hts (.arrayClass .boolean) (by decide +kernel)) (by first | decide | (simp only [rmX5_init]; omega)) (by first | decide | (simp only [rmX5_init]; omega)) dX5_init_54 (fun H hG => ?_)
  rw [show nx Z = nx X + 6 from hN.1]
  have hN := NB_nw hN hq0 8 5
  generalize nw Z 8 5 = Z at hG hN
  refine q_putr hC hG cF5 i5 (NB_kd hN hq0 hk0) 8 (by decide) rfl k28 (by first | exact Or.inl rfl | exact Or.inr ⟨hnm, rfl⟩) rfl rfl dX5_init_56 (fun H locs hG => ?_)
  have hN := NB_wR hN hq0 8 (some (nx X + 6))
  generalize wR Z q 8 (some (nx X + 6)) = Z at hG hN
  refine lv_aload_n hx hb dX5_init_59 rfl (lv_at hl 0 rfl) ?_
  refine n_iconst hC 5 dX5_init_60 ?_
  refine q_newa hC hG (5) (by omega) (hts (.arrayClass .int) (by decide +kernel)) (by first | decide | (simp only [rmX5_init]; omega)) (by first | decide | (simp only [rmX5_init]; omega)) dX5_init_61 (fun H hG => ?_)
  rw [show nx Z = nx X + 7 from hN.1]
  have hN := NB_nw hN hq0 7 5
  generalize nw Z 7 5 = Z at hG hN
  refine q_putr hC hG cF5 i5 (NB_kd hN hq0 hk0) 9 (by decide) rfl k32 (by first | exact Or.inl rfl | exact Or.inr ⟨hnm, rfl⟩) rfl rfl dX5_init_63 (fun H locs hG => ?_)
  have hN := NB_wR hN hq0 9 (some (nx X + 7))
  generalize wR Z q 9 (some (nx X + 7)) = Z at hG hN
  refine lv_aload_n hx hb dX5_init_66 rfl (lv_at hl 0 rfl) ?_
  refine n_bipush hC 25 (by decide) dX5_init_67 ?_
  refine q_newa hC hG (25) (by omega) (hts (.arrayClass .int) (by decide +kernel)) (by first | decide | (simp only [rmX5_init]; omega)) (by first | decide | (simp only [rmX5_init]; omega)) dX5_init_69 (fun H hG => ?_)
  rw [show nx Z = nx X + 8 from hN.1]
  have hN := NB_nw hN hq0 7 25
  generalize nw Z 7 25 = Z at hG hN
  refine q_putr hC hG cF5 i5 (NB_kd hN hq0 hk0) 10 (by decide) rfl k35 (by first | exact Or.inl rfl | exact Or.inr ⟨hnm, rfl⟩) rfl rfl dX5_init_71 (fun H locs hG => ?_)
  have hN := NB_wR hN hq0 10 (some (nx X + 8))
  generalize wR Z q 10 (some (nx X + 8)) = Z at hG hN
  refine lv_aload_n hx hb dX5_init_74 rfl (lv_at hl 0 rfl) ?_
  refine n_bipush hC 25 (by decide) dX5_init_75 ?_
  refine q_newz hC hG (25) (by omega) (hts (.arrayClass .boolean) (by decide +kernel)) (by first | decide | (simp only [rmX5_init]; omega)) (by first | decide | (simp only [rmX5_init]; omega)) dX5_init_77 (fun H hG => ?_)
  rw [show nx Z = nx X + 9 from hN.1]
  have hN := NB_nw hN hq0 8 25
  generalize nw Z 8 25 = Z at hG hN
  refine q_putr hC hG cF5 i5 (NB_kd hN hq0 hk0) 11 (by decide) rfl k38 (by first | exact Or.inl rfl | exact Or.inr ⟨hnm, rfl⟩) rfl rfl dX5_init_79 (fun H locs hG => ?_)
  have hN := NB_wR hN hq0 11 (some (nx X + 9))
  generalize wR Z q 11 (some (nx X + 9)) = Z at hG hN
  refine lv_aload_n hx hb dX5_init_82 rfl (lv_at hl 0 rfl) ?_
  refine n_bipush hC 25 (by decide) dX5_init_83 ?_
  refine q_newz hC hG (25) (by omega) (hts (.arrayClass .boolean) (by decide +kernel)) (by first | decide | (simp only [rmX5_init]; omega)) (by first | decide | (simp only [rmX5_init]; omega)) dX5_init_85 (fun H hG => ?_)
  rw [show nx Z = nx X + 10 from hN.1]
  have hN := NB_nw hN hq0 8 25
  generalize nw Z 8 25 = Z at hG hN
  refine q_putr hC hG cF5 i5 (NB_kd hN hq0 hk0) 12 (by decide) rfl k41 (by first | exact Or.inl rfl | exact Or.inr ⟨hnm, rfl⟩) rfl rfl dX5_init_87 (fun H locs hG => ?_)
  have hN := NB_wR hN hq0 12 (some (nx X + 10))
  generalize wR Z q 12 (some (nx X + 10)) = Z at hG hN
  refine lv_aload_n hx hb dX5_init_90 rfl (lv_at hl 0 rfl) ?_
  refine n_bipush hC 25 (by decide) dX5_init_91 ?_
  refine q_newa hC hG (25) (by omega) (hts (.arrayClass .int) (by decide +kernel)) (by first | decide | (simp only [rmX5_init]; omega)) (by first | decide | (simp only [rmX5_init]; omega)) dX5_init_93 (fun H hG => ?_)
  rw [show nx Z = nx X + 11 from hN.1]
  have hN := NB_nw hN hq0 7 25
  generalize nw Z 7 25 = Z at hG hN
  refine q_putr hC hG cF5 i5 (NB_kd hN hq0 hk0) 13 (by decide) rfl k44 (by first | exact Or.inl rfl | exact Or.inr ⟨hnm, rfl⟩) rfl rfl dX5_init_95 (fun H locs hG => ?_)
  have hN := NB_wR hN hq0 13 (some (nx X + 11))
  generalize wR Z q 13 (some (nx X + 11)) = Z at hG hN
  refine lv_aload_n hx hb dX5_init_98 rfl (lv_at hl 0 rfl) ?_
  refine n_bipush hC 25 (by decide) dX5_init_99 ?_
  refine q_newz hC hG (25) (by omega) (hts (.arrayClass .boolean) (by decide +kernel)) (by first | decide | (simp only [rmX5_init]; omega)) (by first | decide | (simp only [rmX5_init]; omega)) dX5_init_101 (fun H hG => ?_)
  rw [show nx Z = nx X + 12 from hN.1]
  have hN := NB_nw hN hq0 8 25
  generalize nw Z 8 25 = Z at hG hN
  refine q_putr hC hG cF5 i5 (NB_kd hN hq0 hk0) 14 (by decide) rfl k47 (by first | exact Or.inl rfl | exact Or.inr ⟨hnm, rfl⟩) rfl rfl dX5_init_103 (fun H locs hG => ?_)
  have hN := NB_wR hN hq0 14 (some (nx X + 12))
  generalize wR Z q 14 (some (nx X + 12)) = Z at hG hN
  refine lv_aload_n hx hb dX5_init_106 rfl (lv_at hl 0 rfl) ?_
  refine n_bipush hC 25 (by decide) dX5_init_107 ?_
  refine q_newa hC hG (25) (by omega) (hts (.arrayClass .int) (by decide +kernel)) (by first | decide | (simp only [rmX5_init]; omega)) (by first | decide | (simp only [rmX5_init]; omega)) dX5_init_109 (fun H hG => ?_)
  rw [show nx Z = nx X + 13 from hN.1]
  have hN := NB_nw hN hq0 7 25
  generalize nw Z 7 25 = Z at hG hN
  refine q_putr hC hG cF5 i5 (NB_kd hN hq0 hk0) 15 (by decide) rfl k50 (by first | exact Or.inl rfl | exact Or.inr ⟨hnm, rfl⟩) rfl rfl dX5_init_111 (fun H locs hG => ?_)
  have hN := NB_wR hN hq0 15 (some (nx X + 13))
  generalize wR Z q 15 (some (nx X + 13)) = Z at hG hN
  refine lv_aload_n hx hb dX5_init_114 rfl (lv_at hl 0 rfl) ?_
  refine n_bipush hC 25 (by decide) dX5_init_115 ?_
  refine q_newz hC hG (25) (by omega) (hts (.arrayClass .boolean) (by decide +kernel)) (by first | decide | (simp only [rmX5_init]; omega)) (by first | decide | (simp only [rmX5_init]; omega)) dX5_init_117 (fun H hG => ?_)
  rw [show nx Z = nx X + 14 from hN.1]
  have hN := NB_nw hN hq0 8 25
  generalize nw Z 8 25 = Z at hG hN
  refine q_putr hC hG cF5 i5 (NB_kd hN hq0 hk0) 16 (by decide) rfl k53 (by first | exact Or.inl rfl | exact Or.inr ⟨hnm, rfl⟩) rfl rfl dX5_init_119 (fun H locs hG => ?_)
  have hN := NB_wR hN hq0 16 (some (nx X + 14))
  generalize wR Z q 16 (some (nx X + 14)) = Z at hG hN
  refine lv_aload_n hx hb dX5_init_122 rfl (lv_at hl 0 rfl) ?_
  refine n_sipush hC 240 (by decide +kernel) dX5_init_123 ?_
  refine q_newa hC hG (240) (by omega) (hts (.arrayClass .int) (by decide +kernel)) (by first | decide | (simp only [rmX5_init]; omega)) (by first | decide | (simp only [rmX5_init]; omega)) dX5_init_126 (fun H hG => ?_)
  rw [show nx Z = nx X + 15 from hN.1]
  have hN := NB_nw hN hq0 7 240
  generalize nw Z 7 240 = Z at hG hN
  refine q_putr hC hG cF5 i5 (NB_kd hN hq0 hk0) 19 (by decide) rfl k56 (by first | exact Or.inl rfl | exact Or.inr ⟨hnm, rfl⟩) rfl rfl dX5_init_128 (fun H locs hG => ?_)
  have hN := NB_wR hN hq0 19 (some (nx X + 15))
  generalize wR Z q 19 (some (nx X + 15)) = Z at hG hN
  refine lv_aload_n hx hb dX5_init_131 rfl (lv_at hl 0 rfl) ?_
  refine n_sipush hC 240 (by decide +kernel) dX5_init_132 ?_
  refine q_newa hC hG (240) (by omega) (hts (.arrayClass .int) (by decide +kernel)) (by first | decide | (simp only [rmX5_init]; omega)) (by first | decide | (simp only [rmX5_init]; omega)) dX5_init_135 (fun H hG => ?_)
  rw [show nx Z = nx X + 16 from hN.1]
  have hN := NB_nw hN hq0 7 240
  generalize nw Z 7 240 = Z at hG hN
  refine q_putr hC hG cF5 i5 (NB_kd hN hq0 hk0) 20 (by decide) rfl k59 (by first | exact Or.inl rfl | exact Or.inr ⟨hnm, rfl⟩) rfl rfl dX5_init_137 (fun H locs hG => ?_)
  have hN := NB_wR hN hq0 20 (some (nx X + 16))
  generalize wR Z q 20 (some (nx X + 16)) = Z at hG hN
  refine lv_aload_n hx hb dX5_init_140 rfl (lv_at hl 0 rfl) ?_
  refine n_sipush hC 240 (by decide +kernel) dX5_init_141 ?_
  refine q_newa hC hG (240) (by omega) (hts (.arrayClass .int) (by decide +kernel)) (by first | decide | (simp only [rmX5_init]; omega)) (by first | decide | (simp only [rmX5_init]; omega)) dX5_init_144 (fun H hG => ?_)
  rw [show nx Z = nx X + 17 from hN.1]
  have hN := NB_nw hN hq0 7 240
  generalize nw Z 7 240 = Z at hG hN
  refine q_putr hC hG cF5 i5 (NB_kd hN hq0 hk0) 21 (by decide) rfl k62 (by first | exact Or.inl rfl | exact Or.inr ⟨hnm, rfl⟩) rfl rfl dX5_init_146 (fun H locs hG => ?_)
  have hN := NB_wR hN hq0 21 (some (nx X + 17))
  generalize wR Z q 21 (some (nx X + 17)) = Z at hG hN
  refine lv_aload_n hx hb dX5_init_149 rfl (lv_at hl 0 rfl) ?_
  refine n_sipush hC 240 (by decide +kernel) dX5_init_150 ?_
  refine q_newa hC hG (240) (by omega) (hts (.arrayClass .int) (by decide +kernel)) (by first | decide | (simp only [rmX5_init]; omega)) (by first | decide | (simp only [rmX5_init]; omega)) dX5_init_153 (fun H hG => ?_)
  rw [show nx Z = nx X + 18 from hN.1]
  have hN := NB_nw hN hq0 7 240
  generalize nw Z 7 240 = Z at hG hN
  refine q_putr hC hG cF5 i5 (NB_kd hN hq0 hk0) 22 (by decide) rfl k65 (by first | exact Or.inl rfl | exact Or.inr ⟨hnm, rfl⟩) rfl rfl dX5_init_155 (fun H locs hG => ?_)
  have hN := NB_wR hN hq0 22 (some (nx X + 18))
  generalize wR Z q 22 (some (nx X + 18)) = Z at hG hN
  refine lv_aload_n hx hb dX5_init_158 rfl (lv_at hl 0 rfl) ?_
  refine n_sipush hC 240 (by decide +kernel) dX5_init_159 ?_
  refine q_newa hC hG (240) (by omega) (hts (.arrayClass .int) (by decide +kernel)) (by first | decide | (simp only [rmX5_init]; omega)) (by first | decide | (simp only [rmX5_init]; omega)) dX5_init_162 (fun H hG => ?_)
  rw [show nx Z = nx X + 19 from hN.1]
  have hN := NB_nw hN hq0 7 240
  generalize nw Z 7 240 = Z at hG hN
  refine q_putr hC hG cF5 i5 (NB_kd hN hq0 hk0) 23 (by decide) rfl k68 (by first | exact Or.inl rfl | exact Or.inr ⟨hnm, rfl⟩) rfl rfl dX5_init_164 (fun H locs hG => ?_)
  have hN := NB_wR hN hq0 23 (some (nx X + 19))
  generalize wR Z q 23 (some (nx X + 19)) = Z at hG hN
  refine lv_aload_n hx hb dX5_init_167 rfl (lv_at hl 0 rfl) ?_
  refine n_sipush hC 240 (by decide +kernel) dX5_init_168 ?_
  refine q_newz hC hG (240) (by omega) (hts (.arrayClass .boolean) (by decide +kernel)) (by first | decide | (simp only [rmX5_init]; omega)) (by first | decide | (simp only [rmX5_init]; omega)) dX5_init_171 (fun H hG => ?_)
  rw [show nx Z = nx X + 20 from hN.1]
  have hN := NB_nw hN hq0 8 240
  generalize nw Z 8 240 = Z at hG hN
  refine q_putr hC hG cF5 i5 (NB_kd hN hq0 hk0) 24 (by decide) rfl k71 (by first | exact Or.inl rfl | exact Or.inr ⟨hnm, rfl⟩) rfl rfl dX5_init_173 (fun H locs hG => ?_)
  have hN := NB_wR hN hq0 24 (some (nx X + 20))
  generalize wR Z q 24 (some (nx X + 20)) = Z at hG hN
  refine lv_aload_n hx hb dX5_init_176 rfl (lv_at hl 0 rfl) ?_
  refine n_bipush hC 8 (by decide) dX5_init_177 ?_
  refine q_newa hC hG (8) (by omega) (hts (.arrayClass .int) (by decide +kernel)) (by first | decide | (simp only [rmX5_init]; omega)) (by first | decide | (simp only [rmX5_init]; omega)) dX5_init_179 (fun H hG => ?_)
  rw [show nx Z = nx X + 21 from hN.1]
  have hN := NB_nw hN hq0 7 8
  generalize nw Z 7 8 = Z at hG hN
  refine q_putr hC hG cF5 i5 (NB_kd hN hq0 hk0) 25 (by decide) rfl k74 (by first | exact Or.inl rfl | exact Or.inr ⟨hnm, rfl⟩) rfl rfl dX5_init_181 (fun H locs hG => ?_)
  have hN := NB_wR hN hq0 25 (some (nx X + 21))
  generalize wR Z q 25 (some (nx X + 21)) = Z at hG hN
  refine lv_aload_n hx hb dX5_init_184 rfl (lv_at hl 0 rfl) ?_
  refine lv_iload_n hx hb dX5_init_185 rfl (lv_at hl 1 rfl) ?_
  refine n_iconst hC 5 dX5_init_186 ?_
  refine lv_icmp_ne (tgt := 194) hx hb dX5_init_187 (by decide) (fun c187 => ?_) (fun c187 => ?_)
  · refine n_iconst hC 3 dX5_init_194 ?_
    refine q_puti hC hG cF5 i5 (NB_kd hN hq0 hk0) 0 (by decide) rfl k77 (by first | exact Or.inl rfl | exact Or.inr ⟨hnm, rfl⟩) rfl rfl dX5_init_195 (fun H locs hG => ?_)
    have hN := NB_wI hN hq0 0 3
    generalize wI Z q 0 3 = Z at hG hN
    refine lv_aload_n hx hb dX5_init_198 rfl (lv_at hl 0 rfl) ?_
    refine lv_iload_n hx hb dX5_init_199 rfl (lv_at hl 1 rfl) ?_
    refine n_iconst hC 5 dX5_init_200 ?_
    refine lv_icmp_ne (tgt := 208) hx hb dX5_init_201 (by decide) (fun c201 => ?_) (fun c201 => ?_)
    · refine n_iconst hC 1 dX5_init_208 ?_
      refine q_puti hC hG cF5 i5 (NB_kd hN hq0 hk0) 1 (by decide) rfl k81 (by first | exact Or.inl rfl | exact Or.inr ⟨hnm, rfl⟩) rfl rfl dX5_init_209 (fun H locs hG => ?_)
      have hN := NB_wI hN hq0 1 1
      generalize wI Z q 1 1 = Z at hG hN
      exact q_vret hC hG hr hlk (by obtain ⟨e1, e2⟩ := hn3 c187; rw [e1, e2]; exact ⟨rfl, hN⟩) dX5_init_212 (h1 := by decide) (h2 := by decide)
    · refine n_iconst hC 2 dX5_init_204 ?_
      refine lv_goto (tgt := 209) hx hb dX5_init_205 (by decide) ?_
      refine q_puti hC hG cF5 i5 (NB_kd hN hq0 hk0) 1 (by decide) rfl k81 (by first | exact Or.inl rfl | exact Or.inr ⟨hnm, rfl⟩) rfl rfl dX5_init_209 (fun H locs hG => ?_)
      have hN := NB_wI hN hq0 1 2
      generalize wI Z q 1 2 = Z at hG hN
      exact q_vret hC hG hr hlk (absurd c201 c187) dX5_init_212 (h1 := by decide) (h2 := by decide)
  · refine n_iconst hC 5 dX5_init_190 ?_
    refine lv_goto (tgt := 195) hx hb dX5_init_191 (by decide) ?_
    refine q_puti hC hG cF5 i5 (NB_kd hN hq0 hk0) 0 (by decide) rfl k77 (by first | exact Or.inl rfl | exact Or.inr ⟨hnm, rfl⟩) rfl rfl dX5_init_195 (fun H locs hG => ?_)
    have hN := NB_wI hN hq0 0 5
    generalize wI Z q 0 5 = Z at hG hN
    refine lv_aload_n hx hb dX5_init_198 rfl (lv_at hl 0 rfl) ?_
    refine lv_iload_n hx hb dX5_init_199 rfl (lv_at hl 1 rfl) ?_
    refine n_iconst hC 5 dX5_init_200 ?_
    refine lv_icmp_ne (tgt := 208) hx hb dX5_init_201 (by decide) (fun c201 => ?_) (fun c201 => ?_)
    · refine n_iconst hC 1 dX5_init_208 ?_
      refine q_puti hC hG cF5 i5 (NB_kd hN hq0 hk0) 1 (by decide) rfl k81 (by first | exact Or.inl rfl | exact Or.inr ⟨hnm, rfl⟩) rfl rfl dX5_init_209 (fun H locs hG => ?_)
      have hN := NB_wI hN hq0 1 1
      generalize wI Z q 1 1 = Z at hG hN
      exact q_vret hC hG hr hlk (absurd c187 c201) dX5_init_212 (h1 := by decide) (h2 := by decide)
    · refine n_iconst hC 2 dX5_init_204 ?_
      refine lv_goto (tgt := 209) hx hb dX5_init_205 (by decide) ?_
      refine q_puti hC hG cF5 i5 (NB_kd hN hq0 hk0) 1 (by decide) rfl k81 (by first | exact Or.inl rfl | exact Or.inr ⟨hnm, rfl⟩) rfl rfl dX5_init_209 (fun H locs hG => ?_)
      have hN := NB_wI hN hq0 1 2
      generalize wI Z q 1 2 = Z at hG hN
      exact q_vret hC hG hr hlk (by obtain ⟨e1, e2⟩ := hn5 c187; rw [e1, e2]; exact ⟨rfl, hN⟩) dX5_init_212 (h1 := by decide) (h2 := by decide)
