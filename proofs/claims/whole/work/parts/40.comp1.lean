abbrev rmX1_size : Room := { frames := 0, cells := 0, slots := 0, locals := 0 }
set_option maxHeartbeats 4000000 in
set_option maxRecDepth 100000 in
theorem k_X1_size (l : Launch) (D : va_G) (cA : Nat → ClassId) (A : Nat → Prop) {b n f : Nat} {X : Mem} {M : MM} {P : Nat → Nat} (hs : Sd b n f X M) {M1 : MM} {lg g0 : Nat} (hlg : LogAt b n X lg M1 g0) (hL0 : M1 3 g0 ≤ 16) : mt l D cA A yX1_size wsX1_size rmX1_size [.ref lg] (cM b n X M P) (fun v Y => v = some (.int (nI (M1 3 g0))) ∧ Y = cM b n X M P) := by
  refine q_start (by decide) rfl (Nat.le_of_ble_eq_true rfl) (fun p e s m args below meth c H locs hC hr hlk hnm hG ls hl => ?_)
  have hl : lv_has ls 1 [(0, .ref lg)] := hl
  have hx := hC.1.1
  have hb := hC.1.2.1
  have hts := hC.1.2.2.2.2
  have i1 : ∀ w ∈ wsX10, w ∈ wsX1_size := by decide +kernel
  have hnf := g_nf hs
  have k9 := hts (.fieldLink RX1 9 "ViewStamps$Log" "cells" "[I") (by decide +kernel)
  refine lv_aload_n hx hb dX1_size_0 rfl (lv_at hl 0 rfl) ?_
  obtain ⟨-, ca1, hca11, hca12, hca13, hca14, hca15⟩ := id hlg
  refine q_getr hC hG cF1 i1 hlg.1 0 (by decide) rfl hca11 k9 dX1_size_1 ?_
  refine q_alen hC hG (k := 7) hca12 (by decide) (by decide) hca13 dX1_size_4 ?_
  refine n_bipush hC 6 (by decide) dX1_size_5 ?_
  refine n_idiv hC (by omega) (by omega) (by omega) dX1_size_7 ?_
  exact q_iret (v := (nI ((6 * M1 3 g0) / 6))) hC hG hr hlk (⟨by rw [Nat.mul_div_cancel_left _ (by decide)], rfl⟩) dX1_size_8

def c_fld (M : MM) (g : Nat) (i what : Int32) : Int32 :=
  if i < nI 1 then -2147483648 else if nI (M 3 g) < i then -2147483648 else if what < 0 then -2147483648 else if what < nI 6 then nI (M 2 (96 * g + ((tN i - 1) * 6 + tN what))) else -2147483648
theorem nI_ex {x : Int32} {a : Nat} (ha : a < 2147483648) (h : ¬ x < nI a) : ∃ j : Nat, a ≤ j ∧ j < 2147483648 ∧ x = nI j := by
  have h0 : ¬ x < 0 := fun z => h (by
    apply Int32.lt_iff_toInt_lt.mpr
    have z1 : x.toInt < (0 : Int32).toInt := Int32.lt_iff_toInt_lt.mp z
    have e0 : (0 : Int32).toInt = 0 := by decide
    rw [nI_toInt ha]; omega)
  obtain ⟨j, hj, rfl⟩ := nI_of h0
  exact ⟨j, Nat.le_of_not_lt fun z => h ((nI_ltI hj ha).mpr z), hj, rfl⟩
theorem c_fld_in {M : MM} {g i w : Nat} (h1 : 1 ≤ i) (h2 : i ≤ M 3 g) (h3 : M 3 g ≤ 16) (hw : w < 6) : c_fld M g (nI i) (nI w) = nI (M 2 (96 * g + 6 * (i - 1) + w)) := by
  unfold c_fld
  rw [if_neg (nI_nlt h1 (by omega)), if_neg (nI_nlt h2 (by omega)), if_neg (nI_pos (by omega)), if_pos (nI_lt hw (by decide)), tN_nI (by omega), tN_nI (by omega)]
  congr 2; omega

abbrev rmX1_field : Room := { frames := 1, cells := 0, slots := 0, locals := 20 }
set_option maxHeartbeats 4000000 in
set_option maxRecDepth 100000 in
theorem k_X1_field (l : Launch) (D : va_G) (cA : Nat → ClassId) (A : Nat → Prop) {b n f : Nat} {X : Mem} {M : MM} {P : Nat → Nat} (hs : Sd b n f X M) {M1 : MM} {lg g0 : Nat} (hlg : LogAt b n X lg M1 g0) (hL0 : M1 3 g0 ≤ 16) (i what : Int32) : mt l D cA A yX1_field wsX1_field rmX1_field [.ref lg, .int i, .int what] (cM b n X M P) (fun v Y => v = some (.int (c_fld M1 g0 i what)) ∧ Y = cM b n X M P) := by
  refine q_start (by decide) rfl (Nat.le_of_ble_eq_true rfl) (fun p e s m args below meth c H locs hC hr hlk hnm hG ls hl => ?_)
  have hl : lv_has ls 3 [(0, .ref lg), (1, .int i), (2, .int what)] := hl
  have hx := hC.1.1
  have hb := hC.1.2.1
  have hts := hC.1.2.2.2.2
  have i1 : ∀ w ∈ wsX10, w ∈ wsX1_field := by decide +kernel
  have hnf := g_nf hs
  have k9 := hts (.fieldLink RX1 9 "ViewStamps$Log" "cells" "[I") (by decide +kernel)
  refine lv_iload_n hx hb dX1_field_0 rfl (lv_at hl 1 rfl) ?_
  refine n_iconst hC 1 dX1_field_1 ?_
  refine lv_icmp_lt (tgt := 23) hx hb dX1_field_2 (by decide) (fun c2 => ?_) (fun c2 => ?_)
  · refine lv_ldc (v := (-2147483648)) hx hb hC.1.2.2.2.1 (hts (.constant RX1 19 (-2147483648)) (by decide +kernel)) dX1_field_23 ?_
    exact q_iret (v := (-2147483648)) hC hG hr hlk (⟨by simp only [c_fld, if_pos c2], rfl⟩) dX1_field_25
  · refine lv_iload_n hx hb dX1_field_5 rfl (lv_at hl 1 rfl) ?_
    refine lv_aload_n hx hb dX1_field_6 rfl (lv_at hl 0 rfl) ?_
    refine q_callV (rest := [.int i]) (k_X1_size l D cA A hs hlg hL0) hC hG cF1 hlg.1 0 gX1_field_X1_size rfl (by decide +kernel) ⟨by decide, by decide⟩ rfl hl.1 rfl (by simp [Value.category]) dX1_field_7 ⟨Nat.le_of_ble_eq_true rfl, Nat.le_of_ble_eq_true rfl⟩ (fun v Y H locs hq hG => ?_)
    obtain ⟨rfl, rfl⟩ := hq
    refine lv_icmp_gt (tgt := 23) hx hb dX1_field_10 (by decide) (fun c10 => ?_) (fun c10 => ?_)
    · refine lv_ldc (v := (-2147483648)) hx hb hC.1.2.2.2.1 (hts (.constant RX1 19 (-2147483648)) (by decide +kernel)) dX1_field_23 ?_
      exact q_iret (v := (-2147483648)) hC hG hr hlk (⟨by simp only [c_fld, if_neg c2, if_pos c10], rfl⟩) dX1_field_25
    · refine lv_iload_n hx hb dX1_field_13 rfl (lv_at hl 2 rfl) ?_
      refine lv_if_lt (tgt := 23) hx hb dX1_field_14 (by decide) (fun c14 => ?_) (fun c14 => ?_)
      · refine lv_ldc (v := (-2147483648)) hx hb hC.1.2.2.2.1 (hts (.constant RX1 19 (-2147483648)) (by decide +kernel)) dX1_field_23 ?_
        exact q_iret (v := (-2147483648)) hC hG hr hlk (⟨by simp only [c_fld, if_neg c2, if_neg c10, if_pos c14], rfl⟩) dX1_field_25
      · refine lv_iload_n hx hb dX1_field_17 rfl (lv_at hl 2 rfl) ?_
        refine n_bipush hC 6 (by decide) dX1_field_18 ?_
        refine lv_icmp_lt (tgt := 26) hx hb dX1_field_20 (by decide) (fun c20 => ?_) (fun c20 => ?_)
        · obtain ⟨j, hj1, hj2, rfl⟩ := nI_ex (by decide) c2
          obtain ⟨w, hw2, rfl⟩ := nI_of c14
          have d1 : j ≤ M1 3 g0 := Nat.le_of_not_lt fun z => c10 ((nI_ltI (by omega) hj2).mpr z)
          have d2 : w < 6 := (nI_ltI hw2 (by decide)).mp c20
          have t_j : tN (nI j) = j := tN_nI (by omega)
          have t_w : tN (nI w) = w := tN_nI (by omega)
          refine lv_aload_n hx hb dX1_field_26 rfl (lv_at hl 0 rfl) ?_
          obtain ⟨-, ca1, hca11, hca12, hca13, hca14, hca15⟩ := id hlg
          refine q_getr hC hG cF1 i1 hlg.1 0 (by decide) rfl hca11 k9 dX1_field_27 ?_
          refine lv_iload_n hx hb dX1_field_30 rfl (lv_at hl 1 rfl) ?_
          refine n_iconst hC 1 dX1_field_31 ?_
          refine n_isub hC (by omega) dX1_field_32 ?_
          refine n_bipush hC 6 (by decide) dX1_field_33 ?_
          refine n_imul hC dX1_field_35 ?_
          refine lv_iload_n hx hb dX1_field_36 rfl (lv_at hl 2 rfl) ?_
          refine n_iadd hC dX1_field_37 ?_
          refine q_iw (w := M1 2 (96 * g0 + (((j - 1) * 6) + w))) hC hG hca12 hca13 (by omega) (by omega) ((g_arr hca15 _).trans (hca14 _ (by omega))) dX1_field_38 ?_
          exact q_iret (v := (nI (M1 2 (96 * g0 + (((j - 1) * 6) + w))))) hC hG hr hlk (⟨by simp only [c_fld, if_neg c2, if_neg c10, if_neg c14, if_pos c20, t_j, t_w], rfl⟩) dX1_field_39
        · refine lv_ldc (v := (-2147483648)) hx hb hC.1.2.2.2.1 (hts (.constant RX1 19 (-2147483648)) (by decide +kernel)) dX1_field_23 ?_
          exact q_iret (v := (-2147483648)) hC hG hr hlk (⟨by simp only [c_fld, if_neg c2, if_neg c10, if_neg c14, if_neg c20], rfl⟩) dX1_field_25
