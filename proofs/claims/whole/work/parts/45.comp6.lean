abbrev rmJ7_fill_53178 : Room := { frames := 0, cells := 0, slots := 0, locals := 0 }
set_option maxHeartbeats 4000000 in
set_option maxRecDepth 100000 in
theorem k_J7_fill_53178 (l : Launch) (D : va_G) (cA : Nat → ClassId) (A : Nat → Prop) {Z : Mem} {a z0 : Nat} (v : Nat) (hk0 : kd Z a = 7) (hl0 : ln Z a = z0) (hm : z0 < 1000) : mt l D cA A yJ7_fill_53178 wsJ7_fill_53178 rmJ7_fill_53178 [.ref a, .int (nI v)] (Z) (fun w Y => w = none ∧ Y = fl Z a v z0) := by
  refine q_start (by decide) rfl (Nat.le_of_ble_eq_true rfl) (fun p e s m args below meth c H locs hC hr hlk hnm hG ls hl => ?_)
  have hl : lv_has ls 4 [(0, .ref a), (1, .int (nI v))] := hl
  have hx := hC.1.1
  have hb := hC.1.2.1
  have hts := hC.1.2.2.2.2
  have loop : ∀ (d : Nat) (j : Nat) (H : Heap) (locs : List Loc) (ls : Array Slot), z0 - j < d → j ≤ z0 → gw D cA A (fl Z a v j) s.heap H locs → lv_has ls 4 [(0, .ref a), (1, .int (nI v)), (2, .int (nI j)), (3, .int (nI z0))] → W p l e rmJ7_fill_53178 s m args below meth c H locs 0 0 (MQ below (mQ D cA A (fun w Y => w = none ∧ Y = fl Z a v z0)) args s rmJ7_fill_53178.cells rmJ7_fill_53178.slots A) (F0 m 5 ls []) := by
    intro d
    induction d with
    | zero => intro j H locs ls hd; exact absurd hd (Nat.not_lt_zero _)
    | succ d ih =>
      intro j H locs ls hd hj hG hl
      refine lv_iload_n hx hb dJ7_fill_53178_5 rfl (lv_at hl 2 rfl) ?_
      refine lv_iload_n hx hb dJ7_fill_53178_6 rfl (lv_at hl 3 rfl) ?_
      refine n_ge (tgt := 20) hC dJ7_fill_53178_7 (by decide) (by omega) (by omega) (fun c7 => ?_) (fun c7 => ?_)
      · have c7n := Nat.not_lt.mpr c7
        exact q_vret hC hG hr hlk (⟨rfl, by rw [show j = z0 by omega]⟩) dJ7_fill_53178_20
      · have c7n := Nat.not_le.mpr c7
        refine lv_aload_n hx hb dJ7_fill_53178_10 rfl (lv_at hl 0 rfl) ?_
        refine lv_iload_n hx hb dJ7_fill_53178_11 rfl (lv_at hl 2 rfl) ?_
        refine lv_iload_n hx hb dJ7_fill_53178_12 rfl (lv_at hl 1 rfl) ?_
        refine q_iast (a := a) hC hG (n := z0) hk0 hl0 (by omega) (by omega) dJ7_fill_53178_13 (fun H locs hG => ?_)
        refine n_iinc (n := 1) (k := 2) (lv' := [(2, .int (nI (j + 1))), (0, .ref a), (1, .int (nI v)), (3, .int (nI z0))]) hC dJ7_fill_53178_14 hl rfl (by decide) rfl (fun ls hl => ?_)
        refine lv_goto (tgt := 5) hx hb dJ7_fill_53178_17 (by decide) ?_
        rw [fl_s] at hG
        exact ih (j + 1) _ _ _ (by omega) (by omega) hG (lv_sub hl [1, 2, 0, 3] rfl)
  refine n_iconst hC 0 dJ7_fill_53178_0 ?_
  refine lv_istore_n (lv' := [(2, .int (nI 0)), (0, .ref a), (1, .int (nI v))]) hx hb dJ7_fill_53178_1 rfl hl (by decide) rfl (fun ls hl => ?_)
  refine lv_aload_n hx hb dJ7_fill_53178_2 rfl (lv_at hl 1 rfl) ?_
  refine q_alen hC hG (k := 7) hk0 (by decide) (by decide) hl0 dJ7_fill_53178_3 ?_
  refine lv_istore_n (lv' := [(3, .int (nI z0)), (2, .int (nI 0)), (0, .ref a), (1, .int (nI v))]) hx hb dJ7_fill_53178_4 rfl hl (by decide) rfl (fun ls hl => ?_)
  exact loop (z0 + 1) 0 _ _ _ (by omega) (by omega) (by rw [fl_0]; exact hG) (lv_sub hl [2, 3, 1, 0] rfl)

abbrev rmJ6_bitCount_0f7a4 : Room := { frames := 0, cells := 0, slots := 0, locals := 0 }
set_option maxHeartbeats 4000000 in
set_option maxRecDepth 100000 in
theorem k_J6_bitCount_0f7a4 (l : Launch) (D : va_G) (cA : Nat → ClassId) (A : Nat → Prop) {Z : Mem} (x : Int32) : mt l D cA A yJ6_bitCount_0f7a4 wsJ6_bitCount_0f7a4 rmJ6_bitCount_0f7a4 [.int x] (Z) (fun w Y => w = some (.int (bcI x)) ∧ Y = Z) := by
  refine q_start (by decide) rfl (Nat.le_of_ble_eq_true rfl) (fun p e s m args below meth c H locs hC hr hlk hnm hG ls hl => ?_)
  have hl : lv_has ls 1 [(0, .int x)] := hl
  have hx := hC.1.1
  have hb := hC.1.2.1
  have hts := hC.1.2.2.2.2
  refine lv_iload_n hx hb dJ6_bitCount_0f7a4_0 rfl (lv_at hl 0 rfl) ?_
  refine lv_iload_n hx hb dJ6_bitCount_0f7a4_1 rfl (lv_at hl 0 rfl) ?_
  refine n_iconst hC 1 dJ6_bitCount_0f7a4_2 ?_
  refine lv_iushr (v := usr x (nI 1)) hx hb dJ6_bitCount_0f7a4_3 rfl ?_
  refine lv_ldcw (v := 1431655765) hx hb hC.1.2.2.2.1 (hts (.constant RJ6 265 (1431655765)) (by decide +kernel)) dJ6_bitCount_0f7a4_4 ?_
  refine lv_iand hx hb dJ6_bitCount_0f7a4_7 ?_
  refine lv_isub hx hb dJ6_bitCount_0f7a4_8 ?_
  refine lv_istore_n (lv' := [(0, .int (x - ((usr x (nI 1)) &&& (1431655765))))]) hx hb dJ6_bitCount_0f7a4_9 rfl hl (by decide) rfl (fun ls hl => ?_)
  have hl : lv_has ls 1 [(0, .int (bc1 x))] := hl
  refine lv_iload_n hx hb dJ6_bitCount_0f7a4_10 rfl (lv_at hl 0 rfl) ?_
  refine lv_ldcw (v := 858993459) hx hb hC.1.2.2.2.1 (hts (.constant RJ6 266 (858993459)) (by decide +kernel)) dJ6_bitCount_0f7a4_11 ?_
  refine lv_iand hx hb dJ6_bitCount_0f7a4_14 ?_
  refine lv_iload_n hx hb dJ6_bitCount_0f7a4_15 rfl (lv_at hl 0 rfl) ?_
  refine n_iconst hC 2 dJ6_bitCount_0f7a4_16 ?_
  refine lv_iushr (v := usr (bc1 x) (nI 2)) hx hb dJ6_bitCount_0f7a4_17 rfl ?_
  refine lv_ldcw (v := 858993459) hx hb hC.1.2.2.2.1 (hts (.constant RJ6 266 (858993459)) (by decide +kernel)) dJ6_bitCount_0f7a4_18 ?_
  refine lv_iand hx hb dJ6_bitCount_0f7a4_21 ?_
  refine lv_iadd hx hb dJ6_bitCount_0f7a4_22 ?_
  refine lv_istore_n (lv' := [(0, .int (((bc1 x) &&& (858993459)) + ((usr (bc1 x) (nI 2)) &&& (858993459))))]) hx hb dJ6_bitCount_0f7a4_23 rfl hl (by decide) rfl (fun ls hl => ?_)
  have hl : lv_has ls 1 [(0, .int (bc2 (bc1 x)))] := hl
  refine lv_iload_n hx hb dJ6_bitCount_0f7a4_24 rfl (lv_at hl 0 rfl) ?_
  refine lv_iload_n hx hb dJ6_bitCount_0f7a4_25 rfl (lv_at hl 0 rfl) ?_
  refine n_iconst hC 4 dJ6_bitCount_0f7a4_26 ?_
  refine lv_iushr (v := usr (bc2 (bc1 x)) (nI 4)) hx hb dJ6_bitCount_0f7a4_27 rfl ?_
  refine lv_iadd hx hb dJ6_bitCount_0f7a4_28 ?_
  refine lv_ldcw (v := 252645135) hx hb hC.1.2.2.2.1 (hts (.constant RJ6 267 (252645135)) (by decide +kernel)) dJ6_bitCount_0f7a4_29 ?_
  refine lv_iand hx hb dJ6_bitCount_0f7a4_32 ?_
  refine lv_istore_n (lv' := [(0, .int (((bc2 (bc1 x)) + (usr (bc2 (bc1 x)) (nI 4))) &&& (252645135)))]) hx hb dJ6_bitCount_0f7a4_33 rfl hl (by decide) rfl (fun ls hl => ?_)
  have hl : lv_has ls 1 [(0, .int (bc3 (bc2 (bc1 x))))] := hl
  refine lv_iload_n hx hb dJ6_bitCount_0f7a4_34 rfl (lv_at hl 0 rfl) ?_
  refine lv_iload_n hx hb dJ6_bitCount_0f7a4_35 rfl (lv_at hl 0 rfl) ?_
  refine n_bipush hC 8 (by decide) dJ6_bitCount_0f7a4_36 ?_
  refine lv_iushr (v := usr (bc3 (bc2 (bc1 x))) (nI 8)) hx hb dJ6_bitCount_0f7a4_38 rfl ?_
  refine lv_iadd hx hb dJ6_bitCount_0f7a4_39 ?_
  refine lv_istore_n (lv' := [(0, .int ((bc3 (bc2 (bc1 x))) + (usr (bc3 (bc2 (bc1 x))) (nI 8))))]) hx hb dJ6_bitCount_0f7a4_40 rfl hl (by decide) rfl (fun ls hl => ?_)
  have hl : lv_has ls 1 [(0, .int (bc4 (bc3 (bc2 (bc1 x)))))] := hl
  refine lv_iload_n hx hb dJ6_bitCount_0f7a4_41 rfl (lv_at hl 0 rfl) ?_
  refine lv_iload_n hx hb dJ6_bitCount_0f7a4_42 rfl (lv_at hl 0 rfl) ?_
  refine n_bipush hC 16 (by decide) dJ6_bitCount_0f7a4_43 ?_
  refine lv_iushr (v := usr (bc4 (bc3 (bc2 (bc1 x)))) (nI 16)) hx hb dJ6_bitCount_0f7a4_45 rfl ?_
  refine lv_iadd hx hb dJ6_bitCount_0f7a4_46 ?_
  refine lv_istore_n (lv' := [(0, .int ((bc4 (bc3 (bc2 (bc1 x)))) + (usr (bc4 (bc3 (bc2 (bc1 x)))) (nI 16))))]) hx hb dJ6_bitCount_0f7a4_47 rfl hl (by decide) rfl (fun ls hl => ?_)
  have hl : lv_has ls 1 [(0, .int (bc5 (bc4 (bc3 (bc2 (bc1 x))))))] := hl
  refine lv_iload_n hx hb dJ6_bitCount_0f7a4_48 rfl (lv_at hl 0 rfl) ?_
  refine n_bipush hC 63 (by decide) dJ6_bitCount_0f7a4_49 ?_
  refine lv_iand hx hb dJ6_bitCount_0f7a4_51 ?_
  exact q_iret (v := ((bc5 (bc4 (bc3 (bc2 (bc1 x))))) &&& (nI 63))) hC hG hr hlk (⟨rfl, rfl⟩) dJ6_bitCount_0f7a4_52

theorem cpm_eq (Z : Mem) {a n : Nat} (q : Nat) (h : a < nx Z) : (nx (nw Z 7 q), kd (nw Z 7 q), ln (nw Z 7 q), va_up (iv (nw Z 7 q)) (nx Z) (fun j => if j < n then iv (nw Z 7 q) a j else iv (nw Z 7 q) (nx Z) j), rv (nw Z 7 q)) = cpm Z a n q := by
  refine Prod.ext rfl (Prod.ext rfl (Prod.ext rfl (Prod.ext ?_ rfl)))
  funext c k
  show va_up (va_up (iv Z) (nx Z) (fun _ => 0)) (nx Z) (fun j => if j < n then va_up (iv Z) (nx Z) (fun _ => 0) a j else va_up (iv Z) (nx Z) (fun _ => 0) (nx Z) j) c k = va_up (iv Z) (nx Z) (fun k => if k < n then iv Z a k else 0) c k
  by_cases hc : c = nx Z
  · subst hc
    rw [va_up_self, va_up_self, va_up_ne _ _ (show a ≠ nx Z by omega), va_up_self]
  · rw [va_up_ne _ _ hc, va_up_ne _ _ hc, va_up_ne _ _ hc]

abbrev rmJ7_copyOf_59c91 : Room := { frames := 1, cells := 1, slots := 102, locals := 60 }
set_option maxHeartbeats 4000000 in
set_option maxRecDepth 100000 in
theorem k_J7_copyOf_59c91 (l : Launch) (D : va_G) (cA : Nat → ClassId) (A : Nat → Prop) {Z : Mem} {a z0 : Nat} (q : Nat) (hk0 : kd Z a = 7) (hl0 : ln Z a = z0) (hmq : z0 < q) (hq : q ≤ 102) : mt l D cA A yJ7_copyOf_59c91 wsJ7_copyOf_59c91 rmJ7_copyOf_59c91 [.ref a, .int (nI q)] (Z) (fun w Y => w = some (.ref (nx Z)) ∧ Y = cpm Z a z0 q) := by
  refine q_start (by decide) rfl (Nat.le_of_ble_eq_true rfl) (fun p e s m args below meth c H locs hC hr hlk hnm hG ls hl => ?_)
  have hl : lv_has ls 3 [(0, .ref a), (1, .int (nI q))] := hl
  have hx := hC.1.1
  have hb := hC.1.2.1
  have hts := hC.1.2.2.2.2
  refine lv_iload_n hx hb dJ7_copyOf_59c91_0 rfl (lv_at hl 1 rfl) ?_
  refine lv_aload_n hx hb dJ7_copyOf_59c91_1 rfl (lv_at hl 0 rfl) ?_
  refine q_alen hC hG (k := 7) hk0 (by decide) (by decide) hl0 dJ7_copyOf_59c91_2 ?_
  refine n_ne (tgt := 14) hC dJ7_copyOf_59c91_3 (by decide) (by omega) (by omega) (fun c3 => ?_) (fun c3 => ?_)
  · refine lv_iload_n hx hb dJ7_copyOf_59c91_14 rfl (lv_at hl 1 rfl) ?_
    have hlt := wd_lt hG.1 (a := a) (by rw [hk0]; decide)
    refine q_newa hC hG q (by omega) (hts (.arrayClass .int) (by decide +kernel)) (by decide) (by show 0 + q ≤ 102; omega) dJ7_copyOf_59c91_15 (fun H hG => ?_)
    have hk1 : kd (nw Z 7 q) a = 7 := by rw [show kd (nw Z 7 q) a = kd Z a from va_up_ne _ _ (by omega)]; exact hk0
    have hl1 : ln (nw Z 7 q) a = z0 := by rw [show ln (nw Z 7 q) a = ln Z a from va_up_ne _ _ (by omega)]; exact hl0
    refine lv_astore_n (lv' := [(2, .ref (nx Z)), (0, .ref a), (1, .int (nI q))]) hx hb dJ7_copyOf_59c91_17 rfl hl (by decide) rfl (fun ls hl => ?_)
    refine lv_aload_n hx hb dJ7_copyOf_59c91_18 rfl (lv_at hl 1 rfl) ?_
    refine n_iconst hC 0 dJ7_copyOf_59c91_19 ?_
    refine lv_aload_n hx hb dJ7_copyOf_59c91_20 rfl (lv_at hl 0 rfl) ?_
    refine n_iconst hC 0 dJ7_copyOf_59c91_21 ?_
    refine lv_aload_n hx hb dJ7_copyOf_59c91_22 rfl (lv_at hl 1 rfl) ?_
    refine q_alen hC hG (k := 7) hk1 (by decide) (by decide) hl1 dJ7_copyOf_59c91_23 ?_
    refine lv_iload_n hx hb dJ7_copyOf_59c91_24 rfl (lv_at hl 2 rfl) ?_
    refine n_min hC hl.1 (hts (.methodLink RJ7 304 Lib.Math.min.name) (by decide +kernel)) (hts (.static Lib.Math.min.name) (by decide +kernel)) (hts (.initialized "java/lang/Math") (by decide +kernel)) (hts (.code Lib.Math.min.name Lib.Math.min.code 2 (some .int)) (by decide +kernel)) (by decide) (by simp [Value.category]) (by first | exact Nat.zero_le _ | decide | (simp only [rmJ7_copyOf_59c91]; omega)) (by first | exact Nat.zero_le _ | decide | (simp only [rmJ7_copyOf_59c91]; omega)) (by omega) (by omega) dJ7_copyOf_59c91_25 ?_
    have q25 := m_les_le z0 q
    rw [show m_les z0 q = z0 by unfold m_les; rw [if_pos hmq]]
    refine q_acpy hC hG hl.1 hk1 (va_up_self _ _ _) (by omega) hl1 (va_up_self _ _ _) (Nat.le_refl _) (by omega) (by omega) (hts (.methodLink RJ7 150 arraycopyName) (by decide +kernel)) (hts (.native arraycopyName) (by decide +kernel)) (hts (.static arraycopyName) (by decide +kernel)) (hts (.initialized "java/lang/System") (by decide +kernel)) (by decide) (by decide) dJ7_copyOf_59c91_28 (fun H locs hG => ?_)
    refine lv_aload_n hx hb dJ7_copyOf_59c91_31 rfl (lv_at hl 0 rfl) ?_
    exact q_aret (v := (some (nx Z))) hC hG hr (by first | exact Or.inl ⟨_, rfl⟩ | exact Or.inr ⟨_, rfl⟩) hlk (⟨rfl, cpm_eq Z q hlt⟩) dJ7_copyOf_59c91_32 (h1 := by decide) (h2 := by show 0 + q ≤ 102; omega)
  · exact absurd c3 (by omega)

abbrev rmX2_countLetters : Room := { frames := 0, cells := 0, slots := 0, locals := 0 }
set_option maxHeartbeats 4000000 in
set_option maxRecDepth 100000 in
theorem k_X2_countLetters (l : Launch) (D : va_G) (cA : Nat → ClassId) (A : Nat → Prop) {Z : Mem} {a z0 : Nat} (hk0 : kd Z a = 9) (hl0 : ln Z a = z0) (hm : z0 < 1000) : mt l D cA A yX2_countLetters wsX2_countLetters rmX2_countLetters [.ref a] (Z) (fun w Y => w = some (.int (nI (c_cl (rv Z a) z0))) ∧ Y = Z) := by
  refine q_start (by decide) rfl (Nat.le_of_ble_eq_true rfl) (fun p e s m args below meth c H locs hC hr hlk hnm hG ls hl => ?_)
  have hl : lv_has ls 6 [(0, .ref a)] := hl
  have hx := hC.1.1
  have hb := hC.1.2.1
  have hts := hC.1.2.2.2.2
  have loop : ∀ (d : Nat) (j : Nat) (H : Heap) (locs : List Loc) (ls : Array Slot), z0 - j < d → j ≤ z0 → gw D cA A (Z) s.heap H locs → lv_has ls 6 [(0, .ref a), (1, .int (nI (c_cl (rv Z a) j))), (2, .ref a), (3, .int (nI z0)), (4, .int (nI j))] → W p l e rmX2_countLetters s m args below meth c H locs 0 0 (MQ below (mQ D cA A (fun w Y => w = some (.int (nI (c_cl (rv Z a) z0))) ∧ Y = Z)) args s rmX2_countLetters.cells rmX2_countLetters.slots A) (F0 m 10 ls []) := by
    intro d
    induction d with
    | zero => intro j H locs ls hd; exact absurd hd (Nat.not_lt_zero _)
    | succ d ih =>
      intro j H locs ls hd hj hG hl
      refine lv_iload hx hb dX2_countLetters_10 (lv_at hl 4 rfl) ?_
      refine lv_iload_n hx hb dX2_countLetters_12 rfl (lv_at hl 3 rfl) ?_
      refine n_ge (tgt := 41) hC dX2_countLetters_13 (by decide) (by omega) (by omega) (fun c13 => ?_) (fun c13 => ?_)
      · have c13n := Nat.not_lt.mpr c13
        refine lv_iload_n hx hb dX2_countLetters_41 rfl (lv_at hl 1 rfl) ?_
        exact q_iret (v := (nI (c_cl (rv Z a) j))) hC hG hr hlk (⟨by rw [show j = z0 by omega], rfl⟩) dX2_countLetters_42
      · have c13n := Nat.not_le.mpr c13
        refine lv_aload_n hx hb dX2_countLetters_16 rfl (lv_at hl 2 rfl) ?_
        refine lv_iload hx hb dX2_countLetters_17 (lv_at hl 4 rfl) ?_
        cases hrr : rv Z a j with
        | none =>
          refine q_aw (v := .null) hC hG (Or.inl hk0) hl0 (by omega) (by omega) (by rw [hrr]; rfl) dX2_countLetters_19 ?_
          refine lv_astoreN (lv' := [(5, .null), (0, .ref a), (1, .int (nI (c_cl (rv Z a) j))), (2, .ref a), (3, .int (nI z0)), (4, .int (nI j))]) hx hb dX2_countLetters_20 hl (by decide) rfl (fun ls hl => ?_)
          refine lv_iload_n hx hb dX2_countLetters_22 rfl (lv_at hl 2 rfl) ?_
          refine lv_aloadN hx hb dX2_countLetters_23 (lv_at hl 0 rfl) ?_
          refine lv_ifnonnullN hx hb dX2_countLetters_25 ?_
          refine n_iconst hC 0 dX2_countLetters_28 ?_
          refine lv_goto (tgt := 33) hx hb dX2_countLetters_29 (by decide) ?_
          refine n_iadd hC dX2_countLetters_33 ?_
          refine lv_istore_n (lv' := [(1, .int (nI ((c_cl (rv Z a) j) + 0))), (5, .null), (0, .ref a), (2, .ref a), (3, .int (nI z0)), (4, .int (nI j))]) hx hb dX2_countLetters_34 rfl hl (by decide) rfl (fun ls hl => ?_)
          refine n_iinc (n := 1) (k := 5) (lv' := [(4, .int (nI (j + 1))), (1, .int (nI ((c_cl (rv Z a) j) + 0))), (5, .null), (0, .ref a), (2, .ref a), (3, .int (nI z0))]) hC dX2_countLetters_35 hl rfl (by decide) rfl (fun ls hl => ?_)
          refine lv_goto (tgt := 10) hx hb dX2_countLetters_38 (by decide) ?_
          have e0 : c_cl (rv Z a) (j + 1) = c_cl (rv Z a) j + 0 := by simp [c_cl, hrr]
          exact ih (j + 1) _ _ _ (by omega) (by omega) hG (by rw [e0]; exact (lv_sub hl [3, 1, 4, 5, 0] rfl))
        | some q =>
          refine q_aw (v := .ref q) hC hG (Or.inl hk0) hl0 (by omega) (by omega) (by rw [hrr]; rfl) dX2_countLetters_19 ?_
          refine lv_astore (lv' := [(5, .ref q), (0, .ref a), (1, .int (nI (c_cl (rv Z a) j))), (2, .ref a), (3, .int (nI z0)), (4, .int (nI j))]) hx hb dX2_countLetters_20 hl (by decide) rfl (fun ls hl => ?_)
          refine lv_iload_n hx hb dX2_countLetters_22 rfl (lv_at hl 2 rfl) ?_
          refine lv_aload hx hb dX2_countLetters_23 (lv_at hl 0 rfl) ?_
          refine lv_ifnonnull (tgt := 32) hx hb dX2_countLetters_25 (by decide) ?_
          refine n_iconst hC 1 dX2_countLetters_32 ?_
          refine n_iadd hC dX2_countLetters_33 ?_
          refine lv_istore_n (lv' := [(1, .int (nI ((c_cl (rv Z a) j) + 1))), (5, .ref q), (0, .ref a), (2, .ref a), (3, .int (nI z0)), (4, .int (nI j))]) hx hb dX2_countLetters_34 rfl hl (by decide) rfl (fun ls hl => ?_)
          refine n_iinc (n := 1) (k := 5) (lv' := [(4, .int (nI (j + 1))), (1, .int (nI ((c_cl (rv Z a) j) + 1))), (5, .ref q), (0, .ref a), (2, .ref a), (3, .int (nI z0))]) hC dX2_countLetters_35 hl rfl (by decide) rfl (fun ls hl => ?_)
          refine lv_goto (tgt := 10) hx hb dX2_countLetters_38 (by decide) ?_
          have e0 : c_cl (rv Z a) (j + 1) = c_cl (rv Z a) j + 1 := by simp [c_cl, hrr]
          exact ih (j + 1) _ _ _ (by omega) (by omega) hG (by rw [e0]; exact (lv_sub hl [3, 1, 4, 5, 0] rfl))
  refine n_iconst hC 0 dX2_countLetters_0 ?_
  refine lv_istore_n (lv' := [(1, .int (nI 0)), (0, .ref a)]) hx hb dX2_countLetters_1 rfl hl (by decide) rfl (fun ls hl => ?_)
  refine lv_aload_n hx hb dX2_countLetters_2 rfl (lv_at hl 1 rfl) ?_
  refine lv_astore_n (lv' := [(2, .ref a), (1, .int (nI 0)), (0, .ref a)]) hx hb dX2_countLetters_3 rfl hl (by decide) rfl (fun ls hl => ?_)
  refine lv_aload_n hx hb dX2_countLetters_4 rfl (lv_at hl 0 rfl) ?_
  refine q_alen hC hG (k := 9) hk0 (by decide) (by decide) hl0 dX2_countLetters_5 ?_
  refine lv_istore_n (lv' := [(3, .int (nI z0)), (2, .ref a), (1, .int (nI 0)), (0, .ref a)]) hx hb dX2_countLetters_6 rfl hl (by decide) rfl (fun ls hl => ?_)
  refine n_iconst hC 0 dX2_countLetters_7 ?_
  refine lv_istore (lv' := [(4, .int (nI 0)), (3, .int (nI z0)), (2, .ref a), (1, .int (nI 0)), (0, .ref a)]) hx hb dX2_countLetters_8 hl (by decide) rfl (fun ls hl => ?_)
  exact loop (z0 + 1) 0 _ _ _ (by omega) (by omega) hG (lv_sub hl [4, 3, 2, 1, 0] rfl)
