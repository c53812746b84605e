abbrev rmL_cell : Room := { frames := 0, cells := 0, slots := 0, locals := 0 }
set_option maxHeartbeats 4000000 in
set_option maxRecDepth 100000 in
theorem k_L_cell (l : Launch) (D : va_G) (cA : Nat → ClassId) (A : Nat → Prop) {X : Mem} (b0 L : Nat) (xs : Nat → Int32) (hLL : L ≤ 4097) (hbA : ¬ A b0) : mtS l D cA A b0 L xs yL_cell wsL_cell rmL_cell [.ref b0, .int (nI 0)] (X) (fun w Y => w = some (.int (if 0 < L then xs 0 else 0)) ∧ Y = X) := by
  refine q_startS (by decide) rfl (Nat.le_of_ble_eq_true rfl) (fun p e s m args below meth c H locs hC hr hlk hnm hG hSc ls hl => ?_)
  have hl : lv_has ls 2 [(0, .ref b0), (1, .int (nI 0))] := hl
  have hx := hC.1.1
  have hb := hC.1.2.1
  have hts := hC.1.2.2.2.2
  refine lv_iload_n hx hb dL_cell_0 rfl (lv_at hl 1 rfl) ?_
  refine lv_aload_n hx hb dL_cell_1 rfl (lv_at hl 0 rfl) ?_
  refine va_slen hx hb hSc.1 hSc.2 hbA hG.2 dL_cell_2 ?_
  refine lv_icmp_ge (tgt := 12) hx hb dL_cell_3 (by decide) (fun c3 => ?_) (fun c3 => ?_)
  · refine n_iconst hC 0 dL_cell_12 ?_
    exact q_iret (v := (nI 0)) hC hG hr hlk (⟨by rw [if_neg (fun z => nI_ge z (by omega) c3)]; rfl, rfl⟩) dL_cell_13
  · have h0 : 0 < L := Nat.pos_of_ne_zero (fun z => c3 (by rw [z]; decide))
    refine lv_aload_n hx hb dL_cell_6 rfl (lv_at hl 0 rfl) ?_
    refine lv_iload_n hx hb dL_cell_7 rfl (lv_at hl 1 rfl) ?_
    refine q_scr hC hSc.1 hSc.2 hbA hG (i := 0) (by omega) (by omega) dL_cell_8 ?_
    refine lv_goto (tgt := 13) hx hb dL_cell_9 (by decide) ?_
    exact q_iret (v := (xs 0)) hC hG hr hlk (⟨by rw [if_pos h0], rfl⟩) dL_cell_13

set_option maxHeartbeats 8000000 in
set_option maxRecDepth 100000 in
/-- the law's loop -/
theorem law_loop {p : Program} {e : Env} {s : State} {m : MethodId} {below : List Frame} {meth : Method} {c : Code} (l : Launch) {b0 L : Nat} {xs : Nat → Int32} {D : va_G} {cA : Nat → ClassId} (hLL : L ≤ 4097) (hSc : va_X b0 L xs s s.heap) (hbl : b0 < s.heap.size) (hC : cx p s m #[Value.ref b0] c cL_law 4 wsL_law RL D cA) (hr : meth.sig.returnType = ret) (hlk : meth.locks = false) {b n f : Nat} : ∀ (d j : Nat) (Z : Mem) (M : MM) (P : Nat → Nat) (H : Heap) (locs : List Loc) (ls : Array Slot), 5000 - j < d → 1 ≤ j → j ≤ 4106 → WD b n f Z M P → gw D cA (fun q : Nat => s.heap.size ≤ q) Z s.heap H locs → lv_has ls 4 [(0, .ref b0), (1, .ref b), (2, .ref (b + 7 + 5 * n)), (3, .int (nI j))] → W p l e room_1 s m #[Value.ref b0] below meth c H locs (60 + 2 * j) (31500 + 18 * j) (lw_Z below #[Value.ref b0] s) (F0 m 28 ls []) := by
  intro d
  induction d with
  | zero => intro j Z M P H locs ls hd; exact absurd hd (Nat.not_lt_zero _)
  | succ d ih =>
    intro j Z M P H locs ls hd hj1 hj2 hW hG hl
    have hx := hC.1.1
    have hb := hC.1.2.1
    have hts := hC.1.2.2.2.2
    have hbA : ¬ (fun q : Nat => s.heap.size ≤ q) b0 := Nat.not_le.mpr hbl
    have hs := hW.1
    have hI := hW.2.2.2.2
    have hJ := hI.1
    have hK := hI.2
    have hB := hJ.1
    have hL := hJ.2.1
    have hE := hJ.2.2.1
    have hnf := g_nf hs
    have hP : mP n M := fun l hl => ⟨(hK.2 l hl).1, (hK.2 l hl).2.1, (hK.2 l hl).2.2.2.1, (hK.2 l hl).2.2.2.2.1⟩
    have hV : ∀ i, i < n → M 6 i ≤ 1000 := fun i hi => (hK.1 i hi).2.1
    refine lv_iload_n hx hb dL_law_28 rfl (lv_at hl 3 rfl) ?_
    refine lv_aload_n hx hb dL_law_29 rfl (lv_at hl 0 rfl) ?_
    refine va_slen hx hb hSc hbl hbA hG.2 dL_law_30 ?_
    refine n_bipush hC 8 (by decide) dL_law_31 ?_
    refine lv_isub hx hb dL_law_33 ?_
    refine lv_icmp_gt (tgt := 645) hx hb dL_law_34 (by decide) (fun c34 => ?_) (fun c34 => ?_)
    · refine n_iconst hC 1 dL_law_645 ?_
      refine va_forget hG.2.2.2 ?_
      refine W.widen (k := 600000) (n := 7302250) (by omega) (by omega) ?_
      exact lw_ret hx hb hr hlk dL_law_646
    · have hj8 := law_len hLL (by omega) c34
      refine lv_aload_n hx hb dL_law_37 rfl (lv_at hl 0 rfl) ?_
      refine lv_iload_n hx hb dL_law_38 rfl (lv_at hl 3 rfl) ?_
      refine q_scr hC hSc hbl hbA hG (i := j) (by omega) (by omega) dL_law_39 ?_
      refine n_bipush hC 15 (by decide) dL_law_40 ?_
      refine lv_iand hx hb dL_law_42 ?_
      by_cases c43x0 : (xs j) &&& (nI 15) = nI 0
      · refine lv_tableIn (off := 77) (tgt := 120) hx hb dL_law_43 (by rw [c43x0]; decide +kernel) (by rw [c43x0]; decide +kernel) (by rw [c43x0]; decide +kernel) (by decide) ?_
        refine lv_aload_n hx hb dL_law_120 rfl (lv_at hl 1 rfl) ?_
        refine lv_aload_n hx hb dL_law_121 rfl (lv_at hl 0 rfl) ?_
        refine lv_iload_n hx hb dL_law_122 rfl (lv_at hl 3 rfl) ?_
        refine n_iconst hC 1 dL_law_123 ?_
        refine n_iadd hC dL_law_124 ?_
        refine q_scr hC hSc hbl hbA hG (i := j + 1) (by omega) (by omega) dL_law_125 ?_
        refine lv_aload_n hx hb dL_law_126 rfl (lv_at hl 0 rfl) ?_
        refine lv_iload_n hx hb dL_law_127 rfl (lv_at hl 3 rfl) ?_
        refine n_iconst hC 2 dL_law_128 ?_
        refine n_iadd hC dL_law_129 ?_
        refine q_scr hC hSc hbl hbA hG (i := j + 2) (by omega) (by omega) dL_law_130 ?_
        refine lv_aload_n hx hb dL_law_131 rfl (lv_at hl 0 rfl) ?_
        refine lv_iload_n hx hb dL_law_132 rfl (lv_at hl 3 rfl) ?_
        refine n_iconst hC 3 dL_law_133 ?_
        refine n_iadd hC dL_law_134 ?_
        refine q_scr hC hSc hbl hbA hG (i := j + 3) (by omega) (by omega) dL_law_135 ?_
        refine lv_aload_n hx hb dL_law_136 rfl (lv_at hl 0 rfl) ?_
        refine lv_iload_n hx hb dL_law_137 rfl (lv_at hl 3 rfl) ?_
        refine n_iconst hC 4 dL_law_138 ?_
        refine n_iadd hC dL_law_139 ?_
        refine q_scr hC hSc hbl hbA hG (i := j + 4) (by omega) (by omega) dL_law_140 ?_
        refine lv_aload_n hx hb dL_law_141 rfl (lv_at hl 0 rfl) ?_
        refine lv_iload_n hx hb dL_law_142 rfl (lv_at hl 3 rfl) ?_
        refine n_iconst hC 5 dL_law_143 ?_
        refine n_iadd hC dL_law_144 ?_
        refine q_scr hC hSc hbl hbA hG (i := j + 5) (by omega) (by omega) dL_law_145 ?_
        refine lv_aload_n hx hb dL_law_146 rfl (lv_at hl 0 rfl) ?_
        refine lv_iload_n hx hb dL_law_147 rfl (lv_at hl 3 rfl) ?_
        refine n_bipush hC 6 (by decide) dL_law_148 ?_
        refine n_iadd hC dL_law_150 ?_
        refine q_scr hC hSc hbl hbA hG (i := j + 6) (by omega) (by omega) dL_law_151 ?_
        refine lv_aload_n hx hb dL_law_152 rfl (lv_at hl 0 rfl) ?_
        refine lv_iload_n hx hb dL_law_153 rfl (lv_at hl 3 rfl) ?_
        refine n_bipush hC 7 (by decide) dL_law_154 ?_
        refine n_iadd hC dL_law_156 ?_
        refine q_scr hC hSc hbl hbA hG (i := j + 7) (by omega) (by omega) dL_law_157 ?_
        have hG : gw D cA (fun q : Nat => s.heap.size ≤ q) (cM b n Z M P) s.heap H locs := by rw [hW.2.2.1]; exact hG
        refine q_callV (rest := []) (k_X4_request l D cA _ hs hJ hK (xs (j + 1)) (xs (j + 2)) (xs (j + 3)) (xs (j + 4)) (xs (j + 5)) (xs (j + 6)) (xs (j + 7))) hC hG cF4 hs.1.1.1 7 gL_law_X4_request rfl (by decide +kernel) ⟨by decide, by decide⟩ rfl hl.1 rfl (by simp [Value.category]) dL_law_158 ⟨by simp only [room_1, rmX4_request, rmX5_request]; omega, by simp only [room_1, rmX4_request, rmX5_request]; omega⟩ (fun v Y H locs hq hG => ?_)
        obtain ⟨rfl, X1, rfl, hs1, hg1⟩ := hq
        obtain ⟨hm, hsm⟩ := WD_mid (M' := (m_request n M (xs (j + 1)) (xs (j + 2)) (xs (j + 3)) (xs (j + 4)) (xs (j + 5)) (xs (j + 6)) (xs (j + 7))).2) (P' := P) hW hg1
        refine lv_aload_n hx hb dL_law_161 rfl (lv_at hl 2 rfl) ?_
        refine lv_aload_n hx hb dL_law_162 rfl (lv_at hl 0 rfl) ?_
        refine lv_iload_n hx hb dL_law_163 rfl (lv_at hl 3 rfl) ?_
        refine n_iconst hC 1 dL_law_164 ?_
        refine n_iadd hC dL_law_165 ?_
        refine q_scr hC hSc hbl hbA hG (i := j + 1) (by omega) (by omega) dL_law_166 ?_
        refine lv_aload_n hx hb dL_law_167 rfl (lv_at hl 0 rfl) ?_
        refine lv_iload_n hx hb dL_law_168 rfl (lv_at hl 3 rfl) ?_
        refine n_iconst hC 2 dL_law_169 ?_
        refine n_iadd hC dL_law_170 ?_
        refine q_scr hC hSc hbl hbA hG (i := j + 2) (by omega) (by omega) dL_law_171 ?_
        refine lv_aload_n hx hb dL_law_172 rfl (lv_at hl 0 rfl) ?_
        refine lv_iload_n hx hb dL_law_173 rfl (lv_at hl 3 rfl) ?_
        refine n_iconst hC 3 dL_law_174 ?_
        refine n_iadd hC dL_law_175 ?_
        refine q_scr hC hSc hbl hbA hG (i := j + 3) (by omega) (by omega) dL_law_176 ?_
        refine lv_aload_n hx hb dL_law_177 rfl (lv_at hl 0 rfl) ?_
        refine lv_iload_n hx hb dL_law_178 rfl (lv_at hl 3 rfl) ?_
        refine n_iconst hC 4 dL_law_179 ?_
        refine n_iadd hC dL_law_180 ?_
        refine q_scr hC hSc hbl hbA hG (i := j + 4) (by omega) (by omega) dL_law_181 ?_
        refine lv_aload_n hx hb dL_law_182 rfl (lv_at hl 0 rfl) ?_
        refine lv_iload_n hx hb dL_law_183 rfl (lv_at hl 3 rfl) ?_
        refine n_iconst hC 5 dL_law_184 ?_
        refine n_iadd hC dL_law_185 ?_
        refine q_scr hC hSc hbl hbA hG (i := j + 5) (by omega) (by omega) dL_law_186 ?_
        refine lv_aload_n hx hb dL_law_187 rfl (lv_at hl 0 rfl) ?_
        refine lv_iload_n hx hb dL_law_188 rfl (lv_at hl 3 rfl) ?_
        refine n_bipush hC 6 (by decide) dL_law_189 ?_
        refine n_iadd hC dL_law_191 ?_
        refine q_scr hC hSc hbl hbA hG (i := j + 6) (by omega) (by omega) dL_law_192 ?_
        refine lv_aload_n hx hb dL_law_193 rfl (lv_at hl 0 rfl) ?_
        refine lv_iload_n hx hb dL_law_194 rfl (lv_at hl 3 rfl) ?_
        refine n_bipush hC 7 (by decide) dL_law_195 ?_
        refine n_iadd hC dL_law_197 ?_
        refine q_scr hC hSc hbl hbA hG (i := j + 7) (by omega) (by omega) dL_law_198 ?_
        rw [← hsm] at hG
        refine q_callV (rest := [.int ((m_request n M (xs (j + 1)) (xs (j + 2)) (xs (j + 3)) (xs (j + 4)) (xs (j + 5)) (xs (j + 6)) (xs (j + 7))).1)]) (k_X5_request l D cA _ hm hB hL hE (xs (j + 1)) (xs (j + 2)) (xs (j + 3)) (xs (j + 4)) (xs (j + 5)) (xs (j + 6)) (xs (j + 7))) hC hG cF5 hm.1 7 gL_law_X5_request rfl (by decide +kernel) ⟨by decide, by decide⟩ rfl hl.1 rfl (by simp [Value.category]) dL_law_199 ⟨by simp only [room_1, rmX4_request, rmX5_request]; omega, by simp only [room_1, rmX4_request, rmX5_request]; omega⟩ (fun v Y H locs hq hG => ?_)
        obtain ⟨rfl, rfl⟩ := hq
        have hW := WD_end hs1 hm (I_request hI (by omega) (by omega) (xs (j + 1)) (xs (j + 2)) (xs (j + 3)) (xs (j + 4)) (xs (j + 5)) (xs (j + 6)) (xs (j + 7)))
        refine lv_icmp_eq (tgt := 639) hx hb dL_law_202 (by decide) (fun c202 => ?_) (fun c202 => ?_)
        · refine n_iinc (n := 8) (k := 3) (lv' := [(3, .int (nI (j + 8))), (0, .ref b0), (1, .ref b), (2, .ref (b + 7 + 5 * n))]) hC dL_law_639 hl rfl (by decide) rfl (fun ls hl => ?_)
          refine lv_goto (tgt := 28) hx hb dL_law_642 (by decide) ?_
          refine W.widen (k := 60 + 2 * (j + 8)) (n := 31500 + 18 * (j + 8)) (by first | omega | (simp only [rmX4_request, rmX5_request]; omega)) (by first | omega | (simp only [rmX4_request, rmX5_request]; omega)) ?_
          exact ih (j + 8) _ _ _ _ _ _ (by omega) (by omega) (by omega) hW hG (lv_sub hl [1, 2, 3, 0] rfl)
        · exact absurd rfl c202
      by_cases c43x1 : (xs j) &&& (nI 15) = nI 1
      · refine lv_tableIn (off := 164) (tgt := 207) hx hb dL_law_43 (by rw [c43x1]; decide +kernel) (by rw [c43x1]; decide +kernel) (by rw [c43x1]; decide +kernel) (by decide) ?_
        refine lv_aload_n hx hb dL_law_207 rfl (lv_at hl 1 rfl) ?_
        refine lv_aload_n hx hb dL_law_208 rfl (lv_at hl 0 rfl) ?_
        refine lv_iload_n hx hb dL_law_209 rfl (lv_at hl 3 rfl) ?_
        refine n_iconst hC 1 dL_law_210 ?_
        refine n_iadd hC dL_law_211 ?_
        refine q_scr hC hSc hbl hbA hG (i := j + 1) (by omega) (by omega) dL_law_212 ?_
        have hG : gw D cA (fun q : Nat => s.heap.size ≤ q) (cM b n Z M P) s.heap H locs := by rw [hW.2.2.1]; exact hG
        refine q_callV (rest := []) (k_X4_deliver l D cA _ hs hJ hK (xs (j + 1))) hC hG cF4 hs.1.1.1 1 gL_law_X4_deliver rfl (by decide +kernel) ⟨by decide, by decide⟩ rfl hl.1 rfl (by simp [Value.category]) dL_law_213 ⟨by simp only [room_1, rmX4_deliver, rmX5_deliver]; omega, by simp only [room_1, rmX4_deliver, rmX5_deliver]; omega⟩ (fun v Y H locs hq hG => ?_)
        obtain ⟨rfl, X1, rfl, hs1, hg1⟩ := hq
        obtain ⟨hm, hsm⟩ := WD_mid (M' := (m_deliver n f M (xs (j + 1))).2) (P' := P) hW hg1
        refine lv_aload_n hx hb dL_law_216 rfl (lv_at hl 2 rfl) ?_
        refine lv_aload_n hx hb dL_law_217 rfl (lv_at hl 0 rfl) ?_
        refine lv_iload_n hx hb dL_law_218 rfl (lv_at hl 3 rfl) ?_
        refine n_iconst hC 1 dL_law_219 ?_
        refine n_iadd hC dL_law_220 ?_
        refine q_scr hC hSc hbl hbA hG (i := j + 1) (by omega) (by omega) dL_law_221 ?_
        rw [← hsm] at hG
        refine q_callV (rest := [.int ((m_deliver n f M (xs (j + 1))).1)]) (k_X5_deliver l D cA _ hm hB hP (xs (j + 1))) hC hG cF5 hm.1 1 gL_law_X5_deliver rfl (by decide +kernel) ⟨by decide, by decide⟩ rfl hl.1 rfl (by simp [Value.category]) dL_law_222 ⟨by simp only [room_1, rmX4_deliver, rmX5_deliver]; omega, by simp only [room_1, rmX4_deliver, rmX5_deliver]; omega⟩ (fun v Y H locs hq hG => ?_)
        obtain ⟨rfl, rfl⟩ := hq
        have hW := WD_end hs1 hm (I_deliver hI (by omega) (by omega) (xs (j + 1)))
        refine lv_icmp_eq (tgt := 639) hx hb dL_law_225 (by decide) (fun c225 => ?_) (fun c225 => ?_)
        · refine n_iinc (n := 8) (k := 3) (lv' := [(3, .int (nI (j + 8))), (0, .ref b0), (1, .ref b), (2, .ref (b + 7 + 5 * n))]) hC dL_law_639 hl rfl (by decide) rfl (fun ls hl => ?_)
          refine lv_goto (tgt := 28) hx hb dL_law_642 (by decide) ?_
          refine W.widen (k := 60 + 2 * (j + 8)) (n := 31500 + 18 * (j + 8)) (by first | omega | (simp only [rmX4_deliver, rmX5_deliver]; omega)) (by first | omega | (simp only [rmX4_deliver, rmX5_deliver]; omega)) ?_
          exact ih (j + 8) _ _ _ _ _ _ (by omega) (by omega) (by omega) hW hG (lv_sub hl [1, 2, 3, 0] rfl)
        · exact absurd rfl c225
      by_cases c43x2 : (xs j) &&& (nI 15) = nI 2
      · refine lv_tableIn (off := 187) (tgt := 230) hx hb dL_law_43 (by rw [c43x2]; decide +kernel) (by rw [c43x2]; decide +kernel) (by rw [c43x2]; decide +kernel) (by decide) ?_
        refine lv_aload_n hx hb dL_law_230 rfl (lv_at hl 1 rfl) ?_
        refine lv_aload_n hx hb dL_law_231 rfl (lv_at hl 0 rfl) ?_
        refine lv_iload_n hx hb dL_law_232 rfl (lv_at hl 3 rfl) ?_
        refine n_iconst hC 1 dL_law_233 ?_
        refine n_iadd hC dL_law_234 ?_
        refine q_scr hC hSc hbl hbA hG (i := j + 1) (by omega) (by omega) dL_law_235 ?_
        have hG : gw D cA (fun q : Nat => s.heap.size ≤ q) (cM b n Z M P) s.heap H locs := by rw [hW.2.2.1]; exact hG
        refine q_callV (rest := []) (k_X4_drop l D cA _ hs hJ hK (xs (j + 1))) hC hG cF4 hs.1.1.1 1 gL_law_X4_drop rfl (by decide +kernel) ⟨by decide, by decide⟩ rfl hl.1 rfl (by simp [Value.category]) dL_law_236 ⟨by simp only [room_1, rmX4_drop, rmX5_drop]; omega, by simp only [room_1, rmX4_drop, rmX5_drop]; omega⟩ (fun v Y H locs hq hG => ?_)
        obtain ⟨rfl, X1, rfl, hs1, hg1⟩ := hq
        obtain ⟨hm, hsm⟩ := WD_mid (M' := (m_drop M (xs (j + 1))).2) (P' := P) hW hg1
        refine lv_aload_n hx hb dL_law_239 rfl (lv_at hl 2 rfl) ?_
        refine lv_aload_n hx hb dL_law_240 rfl (lv_at hl 0 rfl) ?_
        refine lv_iload_n hx hb dL_law_241 rfl (lv_at hl 3 rfl) ?_
        refine n_iconst hC 1 dL_law_242 ?_
        refine n_iadd hC dL_law_243 ?_
        refine q_scr hC hSc hbl hbA hG (i := j + 1) (by omega) (by omega) dL_law_244 ?_
        rw [← hsm] at hG
        refine q_callV (rest := [.int ((m_drop M (xs (j + 1))).1)]) (k_X5_drop l D cA _ hm hB  (xs (j + 1))) hC hG cF5 hm.1 1 gL_law_X5_drop rfl (by decide +kernel) ⟨by decide, by decide⟩ rfl hl.1 rfl (by simp [Value.category]) dL_law_245 ⟨by simp only [room_1, rmX4_drop, rmX5_drop]; omega, by simp only [room_1, rmX4_drop, rmX5_drop]; omega⟩ (fun v Y H locs hq hG => ?_)
        obtain ⟨rfl, rfl⟩ := hq
        have hW := WD_end hs1 hm (I_drop hI (by omega) (xs (j + 1)))
        refine lv_icmp_eq (tgt := 639) hx hb dL_law_248 (by decide) (fun c248 => ?_) (fun c248 => ?_)
        · refine n_iinc (n := 8) (k := 3) (lv' := [(3, .int (nI (j + 8))), (0, .ref b0), (1, .ref b), (2, .ref (b + 7 + 5 * n))]) hC dL_law_639 hl rfl (by decide) rfl (fun ls hl => ?_)
          refine lv_goto (tgt := 28) hx hb dL_law_642 (by decide) ?_
          refine W.widen (k := 60 + 2 * (j + 8)) (n := 31500 + 18 * (j + 8)) (by first | omega | (simp only [rmX4_drop, rmX5_drop]; omega)) (by first | omega | (simp only [rmX4_drop, rmX5_drop]; omega)) ?_
          exact ih (j + 8) _ _ _ _ _ _ (by omega) (by omega) (by omega) hW hG (lv_sub hl [1, 2, 3, 0] rfl)
        · exact absurd rfl c248
      by_cases c43x3 : (xs j) &&& (nI 15) = nI 3
      · refine lv_tableIn (off := 210) (tgt := 253) hx hb dL_law_43 (by rw [c43x3]; decide +kernel) (by rw [c43x3]; decide +kernel) (by rw [c43x3]; decide +kernel) (by decide) ?_
        refine lv_aload_n hx hb dL_law_253 rfl (lv_at hl 1 rfl) ?_
        refine lv_aload_n hx hb dL_law_254 rfl (lv_at hl 0 rfl) ?_
        refine lv_iload_n hx hb dL_law_255 rfl (lv_at hl 3 rfl) ?_
        refine n_iconst hC 1 dL_law_256 ?_
        refine n_iadd hC dL_law_257 ?_
        refine q_scr hC hSc hbl hbA hG (i := j + 1) (by omega) (by omega) dL_law_258 ?_
        refine lv_aload_n hx hb dL_law_259 rfl (lv_at hl 0 rfl) ?_
        refine lv_iload_n hx hb dL_law_260 rfl (lv_at hl 3 rfl) ?_
        refine n_iconst hC 2 dL_law_261 ?_
        refine n_iadd hC dL_law_262 ?_
        refine q_scr hC hSc hbl hbA hG (i := j + 2) (by omega) (by omega) dL_law_263 ?_
        refine lv_aload_n hx hb dL_law_264 rfl (lv_at hl 0 rfl) ?_
        refine lv_iload_n hx hb dL_law_265 rfl (lv_at hl 3 rfl) ?_
        refine n_iconst hC 3 dL_law_266 ?_
        refine n_iadd hC dL_law_267 ?_
        refine q_scr hC hSc hbl hbA hG (i := j + 3) (by omega) (by omega) dL_law_268 ?_
        refine lv_if_eq (tgt := 276) hx hb dL_law_269 (by decide) (fun c269 => ?_) (fun c269 => ?_)
        · refine n_iconst hC 0 dL_law_276 ?_
          have hG : gw D cA (fun q : Nat => s.heap.size ≤ q) (cM b n Z M P) s.heap H locs := by rw [hW.2.2.1]; exact hG
          refine q_callV (rest := []) (k_X4_cut l D cA _ hs hJ hK (xs (j + 1)) (xs (j + 2)) 0 (by decide)) hC hG cF4 hs.1.1.1 3 gL_law_X4_cut rfl (by decide +kernel) ⟨by decide, by decide⟩ rfl hl.1 rfl (by simp [Value.category]) dL_law_277 ⟨by simp only [room_1, rmX4_cut, rmX5_cut]; omega, by simp only [room_1, rmX4_cut, rmX5_cut]; omega⟩ (fun v Y H locs hq hG => ?_)
          obtain ⟨rfl, X1, rfl, hs1, hg1⟩ := hq
          obtain ⟨hm, hsm⟩ := WD_mid (M' := (m_cut n M (xs (j + 1)) (xs (j + 2)) 0).2) (P' := P) hW hg1
          refine lv_aload_n hx hb dL_law_280 rfl (lv_at hl 2 rfl) ?_
          refine lv_aload_n hx hb dL_law_281 rfl (lv_at hl 0 rfl) ?_
          refine lv_iload_n hx hb dL_law_282 rfl (lv_at hl 3 rfl) ?_
          refine n_iconst hC 1 dL_law_283 ?_
          refine n_iadd hC dL_law_284 ?_
          refine q_scr hC hSc hbl hbA hG (i := j + 1) (by omega) (by omega) dL_law_285 ?_
          refine lv_aload_n hx hb dL_law_286 rfl (lv_at hl 0 rfl) ?_
          refine lv_iload_n hx hb dL_law_287 rfl (lv_at hl 3 rfl) ?_
          refine n_iconst hC 2 dL_law_288 ?_
          refine n_iadd hC dL_law_289 ?_
          refine q_scr hC hSc hbl hbA hG (i := j + 2) (by omega) (by omega) dL_law_290 ?_
          refine lv_aload_n hx hb dL_law_291 rfl (lv_at hl 0 rfl) ?_
          refine lv_iload_n hx hb dL_law_292 rfl (lv_at hl 3 rfl) ?_
          refine n_iconst hC 3 dL_law_293 ?_
          refine n_iadd hC dL_law_294 ?_
          refine q_scr hC hSc hbl hbA hG (i := j + 3) (by omega) (by omega) dL_law_295 ?_
          refine lv_if_eq (tgt := 303) hx hb dL_law_296 (by decide) (fun c296 => ?_) (fun c296 => ?_)
          · refine n_iconst hC 0 dL_law_303 ?_
            rw [← hsm] at hG
            refine q_callV (rest := [.int ((m_cut n M (xs (j + 1)) (xs (j + 2)) 0).1)]) (k_X5_cut l D cA _ hm hB  (xs (j + 1)) (xs (j + 2)) 0 (by decide)) hC hG cF5 hm.1 3 gL_law_X5_cut rfl (by decide +kernel) ⟨by decide, by decide⟩ rfl hl.1 rfl (by simp [Value.category]) dL_law_304 ⟨by simp only [room_1, rmX4_cut, rmX5_cut]; omega, by simp only [room_1, rmX4_cut, rmX5_cut]; omega⟩ (fun v Y H locs hq hG => ?_)
            obtain ⟨rfl, rfl⟩ := hq
            have hW := WD_end hs1 hm (I_cut hI (by omega) (xs (j + 1)) (xs (j + 2)) 0 (by decide))
            refine lv_icmp_eq (tgt := 639) hx hb dL_law_307 (by decide) (fun c307 => ?_) (fun c307 => ?_)
            · refine n_iinc (n := 8) (k := 3) (lv' := [(3, .int (nI (j + 8))), (0, .ref b0), (1, .ref b), (2, .ref (b + 7 + 5 * n))]) hC dL_law_639 hl rfl (by decide) rfl (fun ls hl => ?_)
              refine lv_goto (tgt := 28) hx hb dL_law_642 (by decide) ?_
              refine W.widen (k := 60 + 2 * (j + 8)) (n := 31500 + 18 * (j + 8)) (by first | omega | (simp only [rmX4_cut, rmX5_cut]; omega)) (by first | omega | (simp only [rmX4_cut, rmX5_cut]; omega)) ?_
              exact ih (j + 8) _ _ _ _ _ _ (by omega) (by omega) (by omega) hW hG (lv_sub hl [1, 2, 3, 0] rfl)
            · exact absurd rfl c307
          · refine n_iconst hC 1 dL_law_299 ?_
            refine lv_goto (tgt := 304) hx hb dL_law_300 (by decide) ?_
            exact absurd c269 c296
        · refine n_iconst hC 1 dL_law_272 ?_
          refine lv_goto (tgt := 277) hx hb dL_law_273 (by decide) ?_
          have hG : gw D cA (fun q : Nat => s.heap.size ≤ q) (cM b n Z M P) s.heap H locs := by rw [hW.2.2.1]; exact hG
          refine q_callV (rest := []) (k_X4_cut l D cA _ hs hJ hK (xs (j + 1)) (xs (j + 2)) 1 (by decide)) hC hG cF4 hs.1.1.1 3 gL_law_X4_cut rfl (by decide +kernel) ⟨by decide, by decide⟩ rfl hl.1 rfl (by simp [Value.category]) dL_law_277 ⟨by simp only [room_1, rmX4_cut, rmX5_cut]; omega, by simp only [room_1, rmX4_cut, rmX5_cut]; omega⟩ (fun v Y H locs hq hG => ?_)
          obtain ⟨rfl, X1, rfl, hs1, hg1⟩ := hq
          obtain ⟨hm, hsm⟩ := WD_mid (M' := (m_cut n M (xs (j + 1)) (xs (j + 2)) 1).2) (P' := P) hW hg1
          refine lv_aload_n hx hb dL_law_280 rfl (lv_at hl 2 rfl) ?_
          refine lv_aload_n hx hb dL_law_281 rfl (lv_at hl 0 rfl) ?_
          refine lv_iload_n hx hb dL_law_282 rfl (lv_at hl 3 rfl) ?_
          refine n_iconst hC 1 dL_law_283 ?_
          refine n_iadd hC dL_law_284 ?_
          refine q_scr hC hSc hbl hbA hG (i := j + 1) (by omega) (by omega) dL_law_285 ?_
          refine lv_aload_n hx hb dL_law_286 rfl (lv_at hl 0 rfl) ?_
          refine lv_iload_n hx hb dL_law_287 rfl (lv_at hl 3 rfl) ?_
          refine n_iconst hC 2 dL_law_288 ?_
          refine n_iadd hC dL_law_289 ?_
          refine q_scr hC hSc hbl hbA hG (i := j + 2) (by omega) (by omega) dL_law_290 ?_
          refine lv_aload_n hx hb dL_law_291 rfl (lv_at hl 0 rfl) ?_
          refine lv_iload_n hx hb dL_law_292 rfl (lv_at hl 3 rfl) ?_
          refine n_iconst hC 3 dL_law_293 ?_
          refine n_iadd hC dL_law_294 ?_
          refine q_scr hC hSc hbl hbA hG (i := j + 3) (by omega) (by omega) dL_law_295 ?_
          refine lv_if_eq (tgt := 303) hx hb dL_law_296 (by decide) (fun c296 => ?_) (fun c296 => ?_)
          · refine n_iconst hC 0 dL_law_303 ?_
            exact absurd c296 c269
          · refine n_iconst hC 1 dL_law_299 ?_
            refine lv_goto (tgt := 304) hx hb dL_law_300 (by decide) ?_
            rw [← hsm] at hG
            refine q_callV (rest := [.int ((m_cut n M (xs (j + 1)) (xs (j + 2)) 1).1)]) (k_X5_cut l D cA _ hm hB  (xs (j + 1)) (xs (j + 2)) 1 (by decide)) hC hG cF5 hm.1 3 gL_law_X5_cut rfl (by decide +kernel) ⟨by decide, by decide⟩ rfl hl.1 rfl (by simp [Value.category]) dL_law_304 ⟨by simp only [room_1, rmX4_cut, rmX5_cut]; omega, by simp only [room_1, rmX4_cut, rmX5_cut]; omega⟩ (fun v Y H locs hq hG => ?_)
            obtain ⟨rfl, rfl⟩ := hq
            have hW := WD_end hs1 hm (I_cut hI (by omega) (xs (j + 1)) (xs (j + 2)) 1 (by decide))
            refine lv_icmp_eq (tgt := 639) hx hb dL_law_307 (by decide) (fun c307 => ?_) (fun c307 => ?_)
            · refine n_iinc (n := 8) (k := 3) (lv' := [(3, .int (nI (j + 8))), (0, .ref b0), (1, .ref b), (2, .ref (b + 7 + 5 * n))]) hC dL_law_639 hl rfl (by decide) rfl (fun ls hl => ?_)
              refine lv_goto (tgt := 28) hx hb dL_law_642 (by decide) ?_
              refine W.widen (k := 60 + 2 * (j + 8)) (n := 31500 + 18 * (j + 8)) (by first | omega | (simp only [rmX4_cut, rmX5_cut]; omega)) (by first | omega | (simp only [rmX4_cut, rmX5_cut]; omega)) ?_
              exact ih (j + 8) _ _ _ _ _ _ (by omega) (by omega) (by omega) hW hG (lv_sub hl [1, 2, 3, 0] rfl)
            · exact absurd rfl c307
      by_cases c43x4 : (xs j) &&& (nI 15) = nI 4
      · refine lv_tableIn (off := 269) (tgt := 312) hx hb dL_law_43 (by rw [c43x4]; decide +kernel) (by rw [c43x4]; decide +kernel) (by rw [c43x4]; decide +kernel) (by decide) ?_
        refine lv_aload_n hx hb dL_law_312 rfl (lv_at hl 1 rfl) ?_
        refine lv_aload_n hx hb dL_law_313 rfl (lv_at hl 0 rfl) ?_
        refine lv_iload_n hx hb dL_law_314 rfl (lv_at hl 3 rfl) ?_
        refine n_iconst hC 1 dL_law_315 ?_
        refine n_iadd hC dL_law_316 ?_
        refine q_scr hC hSc hbl hbA hG (i := j + 1) (by omega) (by omega) dL_law_317 ?_
        have hG : gw D cA (fun q : Nat => s.heap.size ≤ q) (cM b n Z M P) s.heap H locs := by rw [hW.2.2.1]; exact hG
        refine q_callV (rest := []) (k_X4_timeout l D cA _ hs hJ hK (xs (j + 1))) hC hG cF4 hs.1.1.1 1 gL_law_X4_timeout rfl (by decide +kernel) ⟨by decide, by decide⟩ rfl hl.1 rfl (by simp [Value.category]) dL_law_318 ⟨by simp only [room_1, rmX4_timeout, rmX5_timeout]; omega, by simp only [room_1, rmX4_timeout, rmX5_timeout]; omega⟩ (fun v Y H locs hq hG => ?_)
        obtain ⟨rfl, X1, rfl, hs1, hg1⟩ := hq
        obtain ⟨hm, hsm⟩ := WD_mid (M' := (m_timeout n M (xs (j + 1))).2) (P' := P) hW hg1
        refine lv_aload_n hx hb dL_law_321 rfl (lv_at hl 2 rfl) ?_
        refine lv_aload_n hx hb dL_law_322 rfl (lv_at hl 0 rfl) ?_
        refine lv_iload_n hx hb dL_law_323 rfl (lv_at hl 3 rfl) ?_
        refine n_iconst hC 1 dL_law_324 ?_
        refine n_iadd hC dL_law_325 ?_
        refine q_scr hC hSc hbl hbA hG (i := j + 1) (by omega) (by omega) dL_law_326 ?_
        rw [← hsm] at hG
        refine q_callV (rest := [.int ((m_timeout n M (xs (j + 1))).1)]) (k_X5_timeout l D cA _ hm hB hV (xs (j + 1))) hC hG cF5 hm.1 1 gL_law_X5_timeout rfl (by decide +kernel) ⟨by decide, by decide⟩ rfl hl.1 rfl (by simp [Value.category]) dL_law_327 ⟨by simp only [room_1, rmX4_timeout, rmX5_timeout]; omega, by simp only [room_1, rmX4_timeout, rmX5_timeout]; omega⟩ (fun v Y H locs hq hG => ?_)
        obtain ⟨rfl, rfl⟩ := hq
        have hW := WD_end hs1 hm (I_timeout hI (by omega) (by omega) (by omega) (xs (j + 1)))
        refine lv_icmp_eq (tgt := 639) hx hb dL_law_330 (by decide) (fun c330 => ?_) (fun c330 => ?_)
        · refine n_iinc (n := 8) (k := 3) (lv' := [(3, .int (nI (j + 8))), (0, .ref b0), (1, .ref b), (2, .ref (b + 7 + 5 * n))]) hC dL_law_639 hl rfl (by decide) rfl (fun ls hl => ?_)
          refine lv_goto (tgt := 28) hx hb dL_law_642 (by decide) ?_
          refine W.widen (k := 60 + 2 * (j + 8)) (n := 31500 + 18 * (j + 8)) (by first | omega | (simp only [rmX4_timeout, rmX5_timeout]; omega)) (by first | omega | (simp only [rmX4_timeout, rmX5_timeout]; omega)) ?_
          exact ih (j + 8) _ _ _ _ _ _ (by omega) (by omega) (by omega) hW hG (lv_sub hl [1, 2, 3, 0] rfl)
        · exact absurd rfl c330
      by_cases c43x5 : (xs j) &&& (nI 15) = nI 5
      · refine lv_tableIn (off := 292) (tgt := 335) hx hb dL_law_43 (by rw [c43x5]; decide +kernel) (by rw [c43x5]; decide +kernel) (by rw [c43x5]; decide +kernel) (by decide) ?_
        refine lv_aload_n hx hb dL_law_335 rfl (lv_at hl 1 rfl) ?_
        refine lv_aload_n hx hb dL_law_336 rfl (lv_at hl 0 rfl) ?_
        refine lv_iload_n hx hb dL_law_337 rfl (lv_at hl 3 rfl) ?_
        refine n_iconst hC 1 dL_law_338 ?_
        refine n_iadd hC dL_law_339 ?_
        refine q_scr hC hSc hbl hbA hG (i := j + 1) (by omega) (by omega) dL_law_340 ?_
        have hG : gw D cA (fun q : Nat => s.heap.size ≤ q) (cM b n Z M P) s.heap H locs := by rw [hW.2.2.1]; exact hG
        refine q_callV (rest := []) (k_X4_resend l D cA _ hs hJ hK (xs (j + 1))) hC hG cF4 hs.1.1.1 1 gL_law_X4_resend rfl (by decide +kernel) ⟨by decide, by decide⟩ rfl hl.1 rfl (by simp [Value.category]) dL_law_341 ⟨by simp only [room_1, rmX4_resend, rmX5_resend]; omega, by simp only [room_1, rmX4_resend, rmX5_resend]; omega⟩ (fun v Y H locs hq hG => ?_)
        obtain ⟨rfl, X1, rfl, hs1, hg1⟩ := hq
        obtain ⟨hm, hsm⟩ := WD_mid (M' := (m_resend n M (xs (j + 1))).2) (P' := P) hW hg1
        refine lv_aload_n hx hb dL_law_344 rfl (lv_at hl 2 rfl) ?_
        refine lv_aload_n hx hb dL_law_345 rfl (lv_at hl 0 rfl) ?_
        refine lv_iload_n hx hb dL_law_346 rfl (lv_at hl 3 rfl) ?_
        refine n_iconst hC 1 dL_law_347 ?_
        refine n_iadd hC dL_law_348 ?_
        refine q_scr hC hSc hbl hbA hG (i := j + 1) (by omega) (by omega) dL_law_349 ?_
        rw [← hsm] at hG
        refine q_callV (rest := [.int ((m_resend n M (xs (j + 1))).1)]) (k_X5_resend l D cA _ hm hB  (xs (j + 1))) hC hG cF5 hm.1 1 gL_law_X5_resend rfl (by decide +kernel) ⟨by decide, by decide⟩ rfl hl.1 rfl (by simp [Value.category]) dL_law_350 ⟨by simp only [room_1, rmX4_resend, rmX5_resend]; omega, by simp only [room_1, rmX4_resend, rmX5_resend]; omega⟩ (fun v Y H locs hq hG => ?_)
        obtain ⟨rfl, rfl⟩ := hq
        have hW := WD_end hs1 hm (I_resend hI (by omega) (by omega) (xs (j + 1)))
        refine lv_icmp_eq (tgt := 639) hx hb dL_law_353 (by decide) (fun c353 => ?_) (fun c353 => ?_)
        · refine n_iinc (n := 8) (k := 3) (lv' := [(3, .int (nI (j + 8))), (0, .ref b0), (1, .ref b), (2, .ref (b + 7 + 5 * n))]) hC dL_law_639 hl rfl (by decide) rfl (fun ls hl => ?_)
          refine lv_goto (tgt := 28) hx hb dL_law_642 (by decide) ?_
          refine W.widen (k := 60 + 2 * (j + 8)) (n := 31500 + 18 * (j + 8)) (by first | omega | (simp only [rmX4_resend, rmX5_resend]; omega)) (by first | omega | (simp only [rmX4_resend, rmX5_resend]; omega)) ?_
          exact ih (j + 8) _ _ _ _ _ _ (by omega) (by omega) (by omega) hW hG (lv_sub hl [1, 2, 3, 0] rfl)
        · exact absurd rfl c353
      by_cases c43x6 : (xs j) &&& (nI 15) = nI 6
      · refine lv_tableIn (off := 315) (tgt := 358) hx hb dL_law_43 (by rw [c43x6]; decide +kernel) (by rw [c43x6]; decide +kernel) (by rw [c43x6]; decide +kernel) (by decide) ?_
        refine lv_aload_n hx hb dL_law_358 rfl (lv_at hl 1 rfl) ?_
        refine lv_aload_n hx hb dL_law_359 rfl (lv_at hl 0 rfl) ?_
        refine lv_iload_n hx hb dL_law_360 rfl (lv_at hl 3 rfl) ?_
        refine n_iconst hC 1 dL_law_361 ?_
        refine n_iadd hC dL_law_362 ?_
        refine q_scr hC hSc hbl hbA hG (i := j + 1) (by omega) (by omega) dL_law_363 ?_
        have hG : gw D cA (fun q : Nat => s.heap.size ≤ q) (cM b n Z M P) s.heap H locs := by rw [hW.2.2.1]; exact hG
        refine q_callV (rest := []) (k_X4_crash l D cA _ hs hJ hK (xs (j + 1))) hC hG cF4 hs.1.1.1 1 gL_law_X4_crash rfl (by decide +kernel) ⟨by decide, by decide⟩ rfl hl.1 rfl (by simp [Value.category]) dL_law_364 ⟨by simp only [room_1, rmX4_crash, rmX5_crash]; omega, by simp only [room_1, rmX4_crash, rmX5_crash]; omega⟩ (fun v Y H locs hq hG => ?_)
        obtain ⟨rfl, X1, rfl, hs1, hg1⟩ := hq
        obtain ⟨hm, hsm⟩ := WD_mid (M' := (m_crash n M (xs (j + 1))).2) (P' := c_crP n M P (xs (j + 1))) hW hg1
        refine lv_aload_n hx hb dL_law_367 rfl (lv_at hl 2 rfl) ?_
        refine lv_aload_n hx hb dL_law_368 rfl (lv_at hl 0 rfl) ?_
        refine lv_iload_n hx hb dL_law_369 rfl (lv_at hl 3 rfl) ?_
        refine n_iconst hC 1 dL_law_370 ?_
        refine n_iadd hC dL_law_371 ?_
        refine q_scr hC hSc hbl hbA hG (i := j + 1) (by omega) (by omega) dL_law_372 ?_
        rw [← hsm] at hG
        refine q_callV (rest := [.int ((m_crash n M (xs (j + 1))).1)]) (k_X5_crash l D cA _ hm hB  (xs (j + 1))) hC hG cF5 hm.1 1 gL_law_X5_crash rfl (by decide +kernel) ⟨by decide, by decide⟩ rfl hl.1 rfl (by simp [Value.category]) dL_law_373 ⟨by simp only [room_1, rmX4_crash, rmX5_crash]; omega, by simp only [room_1, rmX4_crash, rmX5_crash]; omega⟩ (fun v Y H locs hq hG => ?_)
        obtain ⟨rfl, rfl⟩ := hq
        have hW := WD_end hs1 hm (I_crash hI (by omega) (by omega) (xs (j + 1)))
        refine lv_icmp_eq (tgt := 639) hx hb dL_law_376 (by decide) (fun c376 => ?_) (fun c376 => ?_)
        · refine n_iinc (n := 8) (k := 3) (lv' := [(3, .int (nI (j + 8))), (0, .ref b0), (1, .ref b), (2, .ref (b + 7 + 5 * n))]) hC dL_law_639 hl rfl (by decide) rfl (fun ls hl => ?_)
          refine lv_goto (tgt := 28) hx hb dL_law_642 (by decide) ?_
          refine W.widen (k := 60 + 2 * (j + 8)) (n := 31500 + 18 * (j + 8)) (by first | omega | (simp only [rmX4_crash, rmX5_crash]; omega)) (by first | omega | (simp only [rmX4_crash, rmX5_crash]; omega)) ?_
          exact ih (j + 8) _ _ _ _ _ _ (by omega) (by omega) (by omega) hW hG (lv_sub hl [1, 2, 3, 0] rfl)
        · exact absurd rfl c376
      by_cases c43x7 : (xs j) &&& (nI 15) = nI 7
      · refine lv_tableIn (off := 338) (tgt := 381) hx hb dL_law_43 (by rw [c43x7]; decide +kernel) (by rw [c43x7]; decide +kernel) (by rw [c43x7]; decide +kernel) (by decide) ?_
        refine lv_aload_n hx hb dL_law_381 rfl (lv_at hl 1 rfl) ?_
        refine lv_aload_n hx hb dL_law_382 rfl (lv_at hl 0 rfl) ?_
        refine lv_iload_n hx hb dL_law_383 rfl (lv_at hl 3 rfl) ?_
        refine n_iconst hC 1 dL_law_384 ?_
        refine n_iadd hC dL_law_385 ?_
        refine q_scr hC hSc hbl hbA hG (i := j + 1) (by omega) (by omega) dL_law_386 ?_
        refine lv_aload_n hx hb dL_law_387 rfl (lv_at hl 0 rfl) ?_
        refine lv_iload_n hx hb dL_law_388 rfl (lv_at hl 3 rfl) ?_
        refine n_iconst hC 2 dL_law_389 ?_
        refine n_iadd hC dL_law_390 ?_
        refine q_scr hC hSc hbl hbA hG (i := j + 2) (by omega) (by omega) dL_law_391 ?_
        have hG : gw D cA (fun q : Nat => s.heap.size ≤ q) (cM b n Z M P) s.heap H locs := by rw [hW.2.2.1]; exact hG
        refine q_callV (rest := []) (k_X4_recover l D cA _ hs hJ hK (xs (j + 1)) (xs (j + 2))) hC hG cF4 hs.1.1.1 2 gL_law_X4_recover rfl (by decide +kernel) ⟨by decide, by decide⟩ rfl hl.1 rfl (by simp [Value.category]) dL_law_392 ⟨by simp only [room_1, rmX4_recover, rmX5_recover]; omega, by simp only [room_1, rmX4_recover, rmX5_recover]; omega⟩ (fun v Y H locs hq hG => ?_)
        obtain ⟨rfl, X1, rfl, hs1, hg1⟩ := hq
        obtain ⟨hm, hsm⟩ := WD_mid (M' := (m_recover n M (xs (j + 1)) (xs (j + 2))).2) (P' := c_rcP n M P (xs (j + 1)) (xs (j + 2))) hW hg1
        refine lv_aload_n hx hb dL_law_395 rfl (lv_at hl 2 rfl) ?_
        refine lv_aload_n hx hb dL_law_396 rfl (lv_at hl 0 rfl) ?_
        refine lv_iload_n hx hb dL_law_397 rfl (lv_at hl 3 rfl) ?_
        refine n_iconst hC 1 dL_law_398 ?_
        refine n_iadd hC dL_law_399 ?_
        refine q_scr hC hSc hbl hbA hG (i := j + 1) (by omega) (by omega) dL_law_400 ?_
        refine lv_aload_n hx hb dL_law_401 rfl (lv_at hl 0 rfl) ?_
        refine lv_iload_n hx hb dL_law_402 rfl (lv_at hl 3 rfl) ?_
        refine n_iconst hC 2 dL_law_403 ?_
        refine n_iadd hC dL_law_404 ?_
        refine q_scr hC hSc hbl hbA hG (i := j + 2) (by omega) (by omega) dL_law_405 ?_
        rw [← hsm] at hG
        refine q_callV (rest := [.int ((m_recover n M (xs (j + 1)) (xs (j + 2))).1)]) (k_X5_recover l D cA _ hm hB  (xs (j + 1)) (xs (j + 2))) hC hG cF5 hm.1 2 gL_law_X5_recover rfl (by decide +kernel) ⟨by decide, by decide⟩ rfl hl.1 rfl (by simp [Value.category]) dL_law_406 ⟨by simp only [room_1, rmX4_recover, rmX5_recover]; omega, by simp only [room_1, rmX4_recover, rmX5_recover]; omega⟩ (fun v Y H locs hq hG => ?_)
        obtain ⟨rfl, rfl⟩ := hq
        have hW := WD_end hs1 hm (I_recover hI (by omega) (by omega) (xs (j + 1)) (xs (j + 2)))
        refine lv_icmp_eq (tgt := 639) hx hb dL_law_409 (by decide) (fun c409 => ?_) (fun c409 => ?_)
        · refine n_iinc (n := 8) (k := 3) (lv' := [(3, .int (nI (j + 8))), (0, .ref b0), (1, .ref b), (2, .ref (b + 7 + 5 * n))]) hC dL_law_639 hl rfl (by decide) rfl (fun ls hl => ?_)
          refine lv_goto (tgt := 28) hx hb dL_law_642 (by decide) ?_
          refine W.widen (k := 60 + 2 * (j + 8)) (n := 31500 + 18 * (j + 8)) (by first | omega | (simp only [rmX4_recover, rmX5_recover]; omega)) (by first | omega | (simp only [rmX4_recover, rmX5_recover]; omega)) ?_
          exact ih (j + 8) _ _ _ _ _ _ (by omega) (by omega) (by omega) hW hG (lv_sub hl [1, 2, 3, 0] rfl)
        · exact absurd rfl c409
      by_cases c43x8 : (xs j) &&& (nI 15) = nI 8
      · refine lv_tableIn (off := 371) (tgt := 414) hx hb dL_law_43 (by rw [c43x8]; decide +kernel) (by rw [c43x8]; decide +kernel) (by rw [c43x8]; decide +kernel) (by decide) ?_
        refine lv_aload_n hx hb dL_law_414 rfl (lv_at hl 1 rfl) ?_
        refine lv_aload_n hx hb dL_law_415 rfl (lv_at hl 0 rfl) ?_
        refine lv_iload_n hx hb dL_law_416 rfl (lv_at hl 3 rfl) ?_
        refine n_iconst hC 1 dL_law_417 ?_
        refine n_iadd hC dL_law_418 ?_
        refine q_scr hC hSc hbl hbA hG (i := j + 1) (by omega) (by omega) dL_law_419 ?_
        refine lv_aload_n hx hb dL_law_420 rfl (lv_at hl 0 rfl) ?_
        refine lv_iload_n hx hb dL_law_421 rfl (lv_at hl 3 rfl) ?_
        refine n_iconst hC 2 dL_law_422 ?_
        refine n_iadd hC dL_law_423 ?_
        refine q_scr hC hSc hbl hbA hG (i := j + 2) (by omega) (by omega) dL_law_424 ?_
        have hG : gw D cA (fun q : Nat => s.heap.size ≤ q) (cM b n Z M P) s.heap H locs := by rw [hW.2.2.1]; exact hG
        refine q_callV (rest := []) (k_X4_node l D cA _ hs hJ (xs (j + 1)) (xs (j + 2))) hC hG cF4 hs.1.1.1 2 gL_law_X4_node rfl (by decide +kernel) ⟨by decide, by decide⟩ rfl hl.1 rfl (by simp [Value.category]) dL_law_425 ⟨by simp only [room_1, rmX4_node, rmX5_node]; omega, by simp only [room_1, rmX4_node, rmX5_node]; omega⟩ (fun v Y H locs hq hG => ?_)
        obtain ⟨rfl, rfl⟩ := hq
        rw [hW.2.2.1] at hG
        refine lv_aload_n hx hb dL_law_428 rfl (lv_at hl 2 rfl) ?_
        refine lv_aload_n hx hb dL_law_429 rfl (lv_at hl 0 rfl) ?_
        refine lv_iload_n hx hb dL_law_430 rfl (lv_at hl 3 rfl) ?_
        refine n_iconst hC 1 dL_law_431 ?_
        refine n_iadd hC dL_law_432 ?_
        refine q_scr hC hSc hbl hbA hG (i := j + 1) (by omega) (by omega) dL_law_433 ?_
        refine lv_aload_n hx hb dL_law_434 rfl (lv_at hl 0 rfl) ?_
        refine lv_iload_n hx hb dL_law_435 rfl (lv_at hl 3 rfl) ?_
        refine n_iconst hC 2 dL_law_436 ?_
        refine n_iadd hC dL_law_437 ?_
        refine q_scr hC hSc hbl hbA hG (i := j + 2) (by omega) (by omega) dL_law_438 ?_
        have hG : gw D cA (fun q : Nat => s.heap.size ≤ q) (sM (b + 7 + 5 * n) Z M) s.heap H locs := by rw [hW.2.2.2.1]; exact hG
        refine q_callV (rest := [.int (m_node n M (xs (j + 1)) (xs (j + 2)))]) (k_X5_node l D cA _ hW.2.1 hB  (xs (j + 1)) (xs (j + 2))) hC hG cF5 hW.2.1.1 2 gL_law_X5_node rfl (by decide +kernel) ⟨by decide, by decide⟩ rfl hl.1 rfl (by simp [Value.category]) dL_law_439 ⟨by simp only [room_1, rmX4_node, rmX5_node]; omega, by simp only [room_1, rmX4_node, rmX5_node]; omega⟩ (fun v Y H locs hq hG => ?_)
        obtain ⟨rfl, rfl⟩ := hq
        rw [hW.2.2.2.1] at hG
        refine lv_icmp_eq (tgt := 639) hx hb dL_law_442 (by decide) (fun c442 => ?_) (fun c442 => ?_)
        · refine n_iinc (n := 8) (k := 3) (lv' := [(3, .int (nI (j + 8))), (0, .ref b0), (1, .ref b), (2, .ref (b + 7 + 5 * n))]) hC dL_law_639 hl rfl (by decide) rfl (fun ls hl => ?_)
          refine lv_goto (tgt := 28) hx hb dL_law_642 (by decide) ?_
          refine W.widen (k := 60 + 2 * (j + 8)) (n := 31500 + 18 * (j + 8)) (by first | omega | (simp only [rmX4_node, rmX5_node]; omega)) (by first | omega | (simp only [rmX4_node, rmX5_node]; omega)) ?_
          exact ih (j + 8) _ _ _ _ _ _ (by omega) (by omega) (by omega) hW hG (lv_sub hl [1, 2, 3, 0] rfl)
        · exact absurd rfl c442
      by_cases c43x9 : (xs j) &&& (nI 15) = nI 9
      · refine lv_tableIn (off := 404) (tgt := 447) hx hb dL_law_43 (by rw [c43x9]; decide +kernel) (by rw [c43x9]; decide +kernel) (by rw [c43x9]; decide +kernel) (by decide) ?_
        refine lv_aload_n hx hb dL_law_447 rfl (lv_at hl 1 rfl) ?_
        refine lv_aload_n hx hb dL_law_448 rfl (lv_at hl 0 rfl) ?_
        refine lv_iload_n hx hb dL_law_449 rfl (lv_at hl 3 rfl) ?_
        refine n_iconst hC 1 dL_law_450 ?_
        refine n_iadd hC dL_law_451 ?_
        refine q_scr hC hSc hbl hbA hG (i := j + 1) (by omega) (by omega) dL_law_452 ?_
        refine lv_aload_n hx hb dL_law_453 rfl (lv_at hl 0 rfl) ?_
        refine lv_iload_n hx hb dL_law_454 rfl (lv_at hl 3 rfl) ?_
        refine n_iconst hC 2 dL_law_455 ?_
        refine n_iadd hC dL_law_456 ?_
        refine q_scr hC hSc hbl hbA hG (i := j + 2) (by omega) (by omega) dL_law_457 ?_
        refine lv_aload_n hx hb dL_law_458 rfl (lv_at hl 0 rfl) ?_
        refine lv_iload_n hx hb dL_law_459 rfl (lv_at hl 3 rfl) ?_
        refine n_iconst hC 3 dL_law_460 ?_
        refine n_iadd hC dL_law_461 ?_
        refine q_scr hC hSc hbl hbA hG (i := j + 3) (by omega) (by omega) dL_law_462 ?_
        have hG : gw D cA (fun q : Nat => s.heap.size ≤ q) (cM b n Z M P) s.heap H locs := by rw [hW.2.2.1]; exact hG
        refine q_callV (rest := []) (k_X4_entry l D cA _ hs hJ (xs (j + 1)) (xs (j + 2)) (xs (j + 3))) hC hG cF4 hs.1.1.1 3 gL_law_X4_entry rfl (by decide +kernel) ⟨by decide, by decide⟩ rfl hl.1 rfl (by simp [Value.category]) dL_law_463 ⟨by simp only [room_1, rmX4_entry, rmX5_entry]; omega, by simp only [room_1, rmX4_entry, rmX5_entry]; omega⟩ (fun v Y H locs hq hG => ?_)
        obtain ⟨rfl, rfl⟩ := hq
        rw [hW.2.2.1] at hG
        refine lv_aload_n hx hb dL_law_466 rfl (lv_at hl 2 rfl) ?_
        refine lv_aload_n hx hb dL_law_467 rfl (lv_at hl 0 rfl) ?_
        refine lv_iload_n hx hb dL_law_468 rfl (lv_at hl 3 rfl) ?_
        refine n_iconst hC 1 dL_law_469 ?_
        refine n_iadd hC dL_law_470 ?_
        refine q_scr hC hSc hbl hbA hG (i := j + 1) (by omega) (by omega) dL_law_471 ?_
        refine lv_aload_n hx hb dL_law_472 rfl (lv_at hl 0 rfl) ?_
        refine lv_iload_n hx hb dL_law_473 rfl (lv_at hl 3 rfl) ?_
        refine n_iconst hC 2 dL_law_474 ?_
        refine n_iadd hC dL_law_475 ?_
        refine q_scr hC hSc hbl hbA hG (i := j + 2) (by omega) (by omega) dL_law_476 ?_
        refine lv_aload_n hx hb dL_law_477 rfl (lv_at hl 0 rfl) ?_
        refine lv_iload_n hx hb dL_law_478 rfl (lv_at hl 3 rfl) ?_
        refine n_iconst hC 3 dL_law_479 ?_
        refine n_iadd hC dL_law_480 ?_
        refine q_scr hC hSc hbl hbA hG (i := j + 3) (by omega) (by omega) dL_law_481 ?_
        have hG : gw D cA (fun q : Nat => s.heap.size ≤ q) (sM (b + 7 + 5 * n) Z M) s.heap H locs := by rw [hW.2.2.2.1]; exact hG
        refine q_callV (rest := [.int (m_entry n M (xs (j + 1)) (xs (j + 2)) (xs (j + 3)))]) (k_X5_entry l D cA _ hW.2.1 hB hL (xs (j + 1)) (xs (j + 2)) (xs (j + 3))) hC hG cF5 hW.2.1.1 3 gL_law_X5_entry rfl (by decide +kernel) ⟨by decide, by decide⟩ rfl hl.1 rfl (by simp [Value.category]) dL_law_482 ⟨by simp only [room_1, rmX4_entry, rmX5_entry]; omega, by simp only [room_1, rmX4_entry, rmX5_entry]; omega⟩ (fun v Y H locs hq hG => ?_)
        obtain ⟨rfl, rfl⟩ := hq
        rw [hW.2.2.2.1] at hG
        refine lv_icmp_eq (tgt := 639) hx hb dL_law_485 (by decide) (fun c485 => ?_) (fun c485 => ?_)
        · refine n_iinc (n := 8) (k := 3) (lv' := [(3, .int (nI (j + 8))), (0, .ref b0), (1, .ref b), (2, .ref (b + 7 + 5 * n))]) hC dL_law_639 hl rfl (by decide) rfl (fun ls hl => ?_)
          refine lv_goto (tgt := 28) hx hb dL_law_642 (by decide) ?_
          refine W.widen (k := 60 + 2 * (j + 8)) (n := 31500 + 18 * (j + 8)) (by first | omega | (simp only [rmX4_entry, rmX5_entry]; omega)) (by first | omega | (simp only [rmX4_entry, rmX5_entry]; omega)) ?_
          exact ih (j + 8) _ _ _ _ _ _ (by omega) (by omega) (by omega) hW hG (lv_sub hl [1, 2, 3, 0] rfl)
        · exact absurd rfl c485
      by_cases c43x10 : (xs j) &&& (nI 15) = nI 10
      · refine lv_tableIn (off := 447) (tgt := 490) hx hb dL_law_43 (by rw [c43x10]; decide +kernel) (by rw [c43x10]; decide +kernel) (by rw [c43x10]; decide +kernel) (by decide) ?_
        refine lv_aload_n hx hb dL_law_490 rfl (lv_at hl 1 rfl) ?_
        refine lv_aload_n hx hb dL_law_491 rfl (lv_at hl 0 rfl) ?_
        refine lv_iload_n hx hb dL_law_492 rfl (lv_at hl 3 rfl) ?_
        refine n_iconst hC 1 dL_law_493 ?_
        refine n_iadd hC dL_law_494 ?_
        refine q_scr hC hSc hbl hbA hG (i := j + 1) (by omega) (by omega) dL_law_495 ?_
        refine lv_aload_n hx hb dL_law_496 rfl (lv_at hl 0 rfl) ?_
        refine lv_iload_n hx hb dL_law_497 rfl (lv_at hl 3 rfl) ?_
        refine n_iconst hC 2 dL_law_498 ?_
        refine n_iadd hC dL_law_499 ?_
        refine q_scr hC hSc hbl hbA hG (i := j + 2) (by omega) (by omega) dL_law_500 ?_
        have hG : gw D cA (fun q : Nat => s.heap.size ≤ q) (cM b n Z M P) s.heap H locs := by rw [hW.2.2.1]; exact hG
        refine q_callV (rest := []) (k_X4_register l D cA _ hs hJ (xs (j + 1)) (xs (j + 2))) hC hG cF4 hs.1.1.1 2 gL_law_X4_register rfl (by decide +kernel) ⟨by decide, by decide⟩ rfl hl.1 rfl (by simp [Value.category]) dL_law_501 ⟨by simp only [room_1, rmX4_register, rmX5_register]; omega, by simp only [room_1, rmX4_register, rmX5_register]; omega⟩ (fun v Y H locs hq hG => ?_)
        obtain ⟨rfl, X1, rfl, hs1, hg1⟩ := hq
        obtain ⟨hm, hsm⟩ := WD_mid (M' := M) (P' := P) hW hg1
        refine lv_aload_n hx hb dL_law_504 rfl (lv_at hl 2 rfl) ?_
        refine lv_aload_n hx hb dL_law_505 rfl (lv_at hl 0 rfl) ?_
        refine lv_iload_n hx hb dL_law_506 rfl (lv_at hl 3 rfl) ?_
        refine n_iconst hC 1 dL_law_507 ?_
        refine n_iadd hC dL_law_508 ?_
        refine q_scr hC hSc hbl hbA hG (i := j + 1) (by omega) (by omega) dL_law_509 ?_
        refine lv_aload_n hx hb dL_law_510 rfl (lv_at hl 0 rfl) ?_
        refine lv_iload_n hx hb dL_law_511 rfl (lv_at hl 3 rfl) ?_
        refine n_iconst hC 2 dL_law_512 ?_
        refine n_iadd hC dL_law_513 ?_
        refine q_scr hC hSc hbl hbA hG (i := j + 2) (by omega) (by omega) dL_law_514 ?_
        rw [← hsm] at hG
        refine q_callV (rest := [.int (m_register n M (xs (j + 1)) (xs (j + 2)))]) (k_X5_register l D cA _ hm hB hL hE (xs (j + 1)) (xs (j + 2))) hC hG cF5 hm.1 2 gL_law_X5_register rfl (by decide +kernel) ⟨by decide, by decide⟩ rfl hl.1 rfl (by simp [Value.category]) dL_law_515 ⟨by simp only [room_1, rmX4_register, rmX5_register]; omega, by simp only [room_1, rmX4_register, rmX5_register]; omega⟩ (fun v Y H locs hq hG => ?_)
        obtain ⟨rfl, R1, rfl⟩ := hq
        have hW := WD_end25 hs1 (by omega) hm hI R1
        refine lv_icmp_eq (tgt := 639) hx hb dL_law_518 (by decide) (fun c518 => ?_) (fun c518 => ?_)
        · refine n_iinc (n := 8) (k := 3) (lv' := [(3, .int (nI (j + 8))), (0, .ref b0), (1, .ref b), (2, .ref (b + 7 + 5 * n))]) hC dL_law_639 hl rfl (by decide) rfl (fun ls hl => ?_)
          refine lv_goto (tgt := 28) hx hb dL_law_642 (by decide) ?_
          refine W.widen (k := 60 + 2 * (j + 8)) (n := 31500 + 18 * (j + 8)) (by first | omega | (simp only [rmX4_register, rmX5_register]; omega)) (by first | omega | (simp only [rmX4_register, rmX5_register]; omega)) ?_
          exact ih (j + 8) _ _ _ _ _ _ (by omega) (by omega) (by omega) hW hG (lv_sub hl [1, 2, 3, 0] rfl)
        · exact absurd rfl c518
      by_cases c43x11 : (xs j) &&& (nI 15) = nI 11
      · refine lv_tableIn (off := 480) (tgt := 523) hx hb dL_law_43 (by rw [c43x11]; decide +kernel) (by rw [c43x11]; decide +kernel) (by rw [c43x11]; decide +kernel) (by decide) ?_
        refine lv_aload_n hx hb dL_law_523 rfl (lv_at hl 1 rfl) ?_
        refine lv_aload_n hx hb dL_law_524 rfl (lv_at hl 0 rfl) ?_
        refine lv_iload_n hx hb dL_law_525 rfl (lv_at hl 3 rfl) ?_
        refine n_iconst hC 1 dL_law_526 ?_
        refine n_iadd hC dL_law_527 ?_
        refine q_scr hC hSc hbl hbA hG (i := j + 1) (by omega) (by omega) dL_law_528 ?_
        refine lv_aload_n hx hb dL_law_529 rfl (lv_at hl 0 rfl) ?_
        refine lv_iload_n hx hb dL_law_530 rfl (lv_at hl 3 rfl) ?_
        refine n_iconst hC 2 dL_law_531 ?_
        refine n_iadd hC dL_law_532 ?_
        refine q_scr hC hSc hbl hbA hG (i := j + 2) (by omega) (by omega) dL_law_533 ?_
        have hG : gw D cA (fun q : Nat => s.heap.size ≤ q) (cM b n Z M P) s.heap H locs := by rw [hW.2.2.1]; exact hG
        refine q_callV (rest := []) (k_X4_known l D cA _ hs hJ (xs (j + 1)) (xs (j + 2))) hC hG cF4 hs.1.1.1 2 gL_law_X4_known rfl (by decide +kernel) ⟨by decide, by decide⟩ rfl hl.1 rfl (by simp [Value.category]) dL_law_534 ⟨by simp only [room_1, rmX4_known, rmX5_known]; omega, by simp only [room_1, rmX4_known, rmX5_known]; omega⟩ (fun v Y H locs hq hG => ?_)
        obtain ⟨rfl, rfl⟩ := hq
        rw [hW.2.2.1] at hG
        refine lv_aload_n hx hb dL_law_537 rfl (lv_at hl 2 rfl) ?_
        refine lv_aload_n hx hb dL_law_538 rfl (lv_at hl 0 rfl) ?_
        refine lv_iload_n hx hb dL_law_539 rfl (lv_at hl 3 rfl) ?_
        refine n_iconst hC 1 dL_law_540 ?_
        refine n_iadd hC dL_law_541 ?_
        refine q_scr hC hSc hbl hbA hG (i := j + 1) (by omega) (by omega) dL_law_542 ?_
        refine lv_aload_n hx hb dL_law_543 rfl (lv_at hl 0 rfl) ?_
        refine lv_iload_n hx hb dL_law_544 rfl (lv_at hl 3 rfl) ?_
        refine n_iconst hC 2 dL_law_545 ?_
        refine n_iadd hC dL_law_546 ?_
        refine q_scr hC hSc hbl hbA hG (i := j + 2) (by omega) (by omega) dL_law_547 ?_
        have hG : gw D cA (fun q : Nat => s.heap.size ≤ q) (sM (b + 7 + 5 * n) Z M) s.heap H locs := by rw [hW.2.2.2.1]; exact hG
        refine q_callV (rest := [.int (m_known n M (xs (j + 1)) (xs (j + 2)))]) (k_X5_known l D cA _ hW.2.1 hB  (xs (j + 1)) (xs (j + 2))) hC hG cF5 hW.2.1.1 2 gL_law_X5_known rfl (by decide +kernel) ⟨by decide, by decide⟩ rfl hl.1 rfl (by simp [Value.category]) dL_law_548 ⟨by simp only [room_1, rmX4_known, rmX5_known]; omega, by simp only [room_1, rmX4_known, rmX5_known]; omega⟩ (fun v Y H locs hq hG => ?_)
        obtain ⟨rfl, rfl⟩ := hq
        rw [hW.2.2.2.1] at hG
        refine lv_icmp_eq (tgt := 639) hx hb dL_law_551 (by decide) (fun c551 => ?_) (fun c551 => ?_)
        · refine n_iinc (n := 8) (k := 3) (lv' := [(3, .int (nI (j + 8))), (0, .ref b0), (1, .ref b), (2, .ref (b + 7 + 5 * n))]) hC dL_law_639 hl rfl (by decide) rfl (fun ls hl => ?_)
          refine lv_goto (tgt := 28) hx hb dL_law_642 (by decide) ?_
          refine W.widen (k := 60 + 2 * (j + 8)) (n := 31500 + 18 * (j + 8)) (by first | omega | (simp only [rmX4_known, rmX5_known]; omega)) (by first | omega | (simp only [rmX4_known, rmX5_known]; omega)) ?_
          exact ih (j + 8) _ _ _ _ _ _ (by omega) (by omega) (by omega) hW hG (lv_sub hl [1, 2, 3, 0] rfl)
        · exact absurd rfl c551
      by_cases c43x12 : (xs j) &&& (nI 15) = nI 12
      · refine lv_tableIn (off := 513) (tgt := 556) hx hb dL_law_43 (by rw [c43x12]; decide +kernel) (by rw [c43x12]; decide +kernel) (by rw [c43x12]; decide +kernel) (by decide) ?_
        refine lv_aload_n hx hb dL_law_556 rfl (lv_at hl 1 rfl) ?_
        refine lv_aload_n hx hb dL_law_557 rfl (lv_at hl 0 rfl) ?_
        refine lv_iload_n hx hb dL_law_558 rfl (lv_at hl 3 rfl) ?_
        refine n_iconst hC 1 dL_law_559 ?_
        refine n_iadd hC dL_law_560 ?_
        refine q_scr hC hSc hbl hbA hG (i := j + 1) (by omega) (by omega) dL_law_561 ?_
        refine lv_aload_n hx hb dL_law_562 rfl (lv_at hl 0 rfl) ?_
        refine lv_iload_n hx hb dL_law_563 rfl (lv_at hl 3 rfl) ?_
        refine n_iconst hC 2 dL_law_564 ?_
        refine n_iadd hC dL_law_565 ?_
        refine q_scr hC hSc hbl hbA hG (i := j + 2) (by omega) (by omega) dL_law_566 ?_
        have hG : gw D cA (fun q : Nat => s.heap.size ≤ q) (cM b n Z M P) s.heap H locs := by rw [hW.2.2.1]; exact hG
        refine q_callV (rest := []) (k_X4_letter l D cA _ hs hJ (xs (j + 1)) (xs (j + 2))) hC hG cF4 hs.1.1.1 2 gL_law_X4_letter rfl (by decide +kernel) ⟨by decide, by decide⟩ rfl hl.1 rfl (by simp [Value.category]) dL_law_567 ⟨by simp only [room_1, rmX4_letter, rmX5_letter]; omega, by simp only [room_1, rmX4_letter, rmX5_letter]; omega⟩ (fun v Y H locs hq hG => ?_)
        obtain ⟨rfl, rfl⟩ := hq
        rw [hW.2.2.1] at hG
        refine lv_aload_n hx hb dL_law_570 rfl (lv_at hl 2 rfl) ?_
        refine lv_aload_n hx hb dL_law_571 rfl (lv_at hl 0 rfl) ?_
        refine lv_iload_n hx hb dL_law_572 rfl (lv_at hl 3 rfl) ?_
        refine n_iconst hC 1 dL_law_573 ?_
        refine n_iadd hC dL_law_574 ?_
        refine q_scr hC hSc hbl hbA hG (i := j + 1) (by omega) (by omega) dL_law_575 ?_
        refine lv_aload_n hx hb dL_law_576 rfl (lv_at hl 0 rfl) ?_
        refine lv_iload_n hx hb dL_law_577 rfl (lv_at hl 3 rfl) ?_
        refine n_iconst hC 2 dL_law_578 ?_
        refine n_iadd hC dL_law_579 ?_
        refine q_scr hC hSc hbl hbA hG (i := j + 2) (by omega) (by omega) dL_law_580 ?_
        have hG : gw D cA (fun q : Nat => s.heap.size ≤ q) (sM (b + 7 + 5 * n) Z M) s.heap H locs := by rw [hW.2.2.2.1]; exact hG
        refine q_callV (rest := [.int (m_letter M (xs (j + 1)) (xs (j + 2)))]) (k_X5_letter l D cA _ hW.2.1 hB  (xs (j + 1)) (xs (j + 2))) hC hG cF5 hW.2.1.1 2 gL_law_X5_letter rfl (by decide +kernel) ⟨by decide, by decide⟩ rfl hl.1 rfl (by simp [Value.category]) dL_law_581 ⟨by simp only [room_1, rmX4_letter, rmX5_letter]; omega, by simp only [room_1, rmX4_letter, rmX5_letter]; omega⟩ (fun v Y H locs hq hG => ?_)
        obtain ⟨rfl, rfl⟩ := hq
        rw [hW.2.2.2.1] at hG
        refine lv_icmp_eq (tgt := 639) hx hb dL_law_584 (by decide) (fun c584 => ?_) (fun c584 => ?_)
        · refine n_iinc (n := 8) (k := 3) (lv' := [(3, .int (nI (j + 8))), (0, .ref b0), (1, .ref b), (2, .ref (b + 7 + 5 * n))]) hC dL_law_639 hl rfl (by decide) rfl (fun ls hl => ?_)
          refine lv_goto (tgt := 28) hx hb dL_law_642 (by decide) ?_
          refine W.widen (k := 60 + 2 * (j + 8)) (n := 31500 + 18 * (j + 8)) (by first | omega | (simp only [rmX4_letter, rmX5_letter]; omega)) (by first | omega | (simp only [rmX4_letter, rmX5_letter]; omega)) ?_
          exact ih (j + 8) _ _ _ _ _ _ (by omega) (by omega) (by omega) hW hG (lv_sub hl [1, 2, 3, 0] rfl)
        · exact absurd rfl c584
      by_cases c43x13 : (xs j) &&& (nI 15) = nI 13
      · refine lv_tableIn (off := 546) (tgt := 589) hx hb dL_law_43 (by rw [c43x13]; decide +kernel) (by rw [c43x13]; decide +kernel) (by rw [c43x13]; decide +kernel) (by decide) ?_
        refine lv_aload_n hx hb dL_law_589 rfl (lv_at hl 1 rfl) ?_
        refine lv_aload_n hx hb dL_law_590 rfl (lv_at hl 0 rfl) ?_
        refine lv_iload_n hx hb dL_law_591 rfl (lv_at hl 3 rfl) ?_
        refine n_iconst hC 1 dL_law_592 ?_
        refine n_iadd hC dL_law_593 ?_
        refine q_scr hC hSc hbl hbA hG (i := j + 1) (by omega) (by omega) dL_law_594 ?_
        have hG : gw D cA (fun q : Nat => s.heap.size ≤ q) (cM b n Z M P) s.heap H locs := by rw [hW.2.2.1]; exact hG
        refine q_callV (rest := []) (k_X4_count l D cA _ hs hJ (xs (j + 1))) hC hG cF4 hs.1.1.1 1 gL_law_X4_count rfl (by decide +kernel) ⟨by decide, by decide⟩ rfl hl.1 rfl (by simp [Value.category]) dL_law_595 ⟨by simp only [room_1, rmX4_count, rmX5_count]; omega, by simp only [room_1, rmX4_count, rmX5_count]; omega⟩ (fun v Y H locs hq hG => ?_)
        obtain ⟨rfl, rfl⟩ := hq
        rw [hW.2.2.1] at hG
        refine lv_aload_n hx hb dL_law_598 rfl (lv_at hl 2 rfl) ?_
        refine lv_aload_n hx hb dL_law_599 rfl (lv_at hl 0 rfl) ?_
        refine lv_iload_n hx hb dL_law_600 rfl (lv_at hl 3 rfl) ?_
        refine n_iconst hC 1 dL_law_601 ?_
        refine n_iadd hC dL_law_602 ?_
        refine q_scr hC hSc hbl hbA hG (i := j + 1) (by omega) (by omega) dL_law_603 ?_
        have hG : gw D cA (fun q : Nat => s.heap.size ≤ q) (sM (b + 7 + 5 * n) Z M) s.heap H locs := by rw [hW.2.2.2.1]; exact hG
        refine q_callV (rest := [.int (m_count n M (xs (j + 1)))]) (k_X5_count l D cA _ hW.2.1 hB  (xs (j + 1))) hC hG cF5 hW.2.1.1 1 gL_law_X5_count rfl (by decide +kernel) ⟨by decide, by decide⟩ rfl hl.1 rfl (by simp [Value.category]) dL_law_604 ⟨by simp only [room_1, rmX4_count, rmX5_count]; omega, by simp only [room_1, rmX4_count, rmX5_count]; omega⟩ (fun v Y H locs hq hG => ?_)
        obtain ⟨rfl, rfl⟩ := hq
        rw [hW.2.2.2.1] at hG
        refine lv_icmp_eq (tgt := 639) hx hb dL_law_607 (by decide) (fun c607 => ?_) (fun c607 => ?_)
        · refine n_iinc (n := 8) (k := 3) (lv' := [(3, .int (nI (j + 8))), (0, .ref b0), (1, .ref b), (2, .ref (b + 7 + 5 * n))]) hC dL_law_639 hl rfl (by decide) rfl (fun ls hl => ?_)
          refine lv_goto (tgt := 28) hx hb dL_law_642 (by decide) ?_
          refine W.widen (k := 60 + 2 * (j + 8)) (n := 31500 + 18 * (j + 8)) (by first | omega | (simp only [rmX4_count, rmX5_count]; omega)) (by first | omega | (simp only [rmX4_count, rmX5_count]; omega)) ?_
          exact ih (j + 8) _ _ _ _ _ _ (by omega) (by omega) (by omega) hW hG (lv_sub hl [1, 2, 3, 0] rfl)
        · exact absurd rfl c607
      by_cases c43x14 : (xs j) &&& (nI 15) = nI 14
      · refine lv_tableIn (off := 569) (tgt := 612) hx hb dL_law_43 (by rw [c43x14]; decide +kernel) (by rw [c43x14]; decide +kernel) (by rw [c43x14]; decide +kernel) (by decide) ?_
        refine lv_aload_n hx hb dL_law_612 rfl (lv_at hl 1 rfl) ?_
        have hG : gw D cA (fun q : Nat => s.heap.size ≤ q) (cM b n Z M P) s.heap H locs := by rw [hW.2.2.1]; exact hG
        refine q_callV (rest := []) (k_X4_unlike l D cA _ hs hJ ) hC hG cF4 hs.1.1.1 0 gL_law_X4_unlike rfl (by decide +kernel) ⟨by decide, by decide⟩ rfl hl.1 rfl (by simp [Value.category]) dL_law_613 ⟨by simp only [room_1, rmX4_unlike, rmX5_unlike]; omega, by simp only [room_1, rmX4_unlike, rmX5_unlike]; omega⟩ (fun v Y H locs hq hG => ?_)
        obtain ⟨rfl, rfl⟩ := hq
        rw [hW.2.2.1] at hG
        refine lv_aload_n hx hb dL_law_616 rfl (lv_at hl 2 rfl) ?_
        have hG : gw D cA (fun q : Nat => s.heap.size ≤ q) (sM (b + 7 + 5 * n) Z M) s.heap H locs := by rw [hW.2.2.2.1]; exact hG
        refine q_callV (rest := [.int (m_unlike n M)]) (k_X5_unlike l D cA _ hW.2.1 hB hL ) hC hG cF5 hW.2.1.1 0 gL_law_X5_unlike rfl (by decide +kernel) ⟨by decide, by decide⟩ rfl hl.1 rfl (by simp [Value.category]) dL_law_617 ⟨by simp only [room_1, rmX4_unlike, rmX5_unlike]; omega, by simp only [room_1, rmX4_unlike, rmX5_unlike]; omega⟩ (fun v Y H locs hq hG => ?_)
        obtain ⟨rfl, rfl⟩ := hq
        rw [hW.2.2.2.1] at hG
        refine lv_icmp_eq (tgt := 639) hx hb dL_law_620 (by decide) (fun c620 => ?_) (fun c620 => ?_)
        · refine n_iinc (n := 8) (k := 3) (lv' := [(3, .int (nI (j + 8))), (0, .ref b0), (1, .ref b), (2, .ref (b + 7 + 5 * n))]) hC dL_law_639 hl rfl (by decide) rfl (fun ls hl => ?_)
          refine lv_goto (tgt := 28) hx hb dL_law_642 (by decide) ?_
          refine W.widen (k := 60 + 2 * (j + 8)) (n := 31500 + 18 * (j + 8)) (by first | omega | (simp only [rmX4_unlike, rmX5_unlike]; omega)) (by first | omega | (simp only [rmX4_unlike, rmX5_unlike]; omega)) ?_
          exact ih (j + 8) _ _ _ _ _ _ (by omega) (by omega) (by omega) hW hG (lv_sub hl [1, 2, 3, 0] rfl)
        · exact absurd rfl c620
      by_cases c43x15 : (xs j) &&& (nI 15) = nI 15
      · refine lv_tableIn (off := 582) (tgt := 625) hx hb dL_law_43 (by rw [c43x15]; decide +kernel) (by rw [c43x15]; decide +kernel) (by rw [c43x15]; decide +kernel) (by decide) ?_
        refine lv_aload_n hx hb dL_law_625 rfl (lv_at hl 1 rfl) ?_
        have hG : gw D cA (fun q : Nat => s.heap.size ≤ q) (cM b n Z M P) s.heap H locs := by rw [hW.2.2.1]; exact hG
        refine q_callV (rest := []) (k_X4_digest l D cA _ hs hJ ) hC hG cF4 hs.1.1.1 0 gL_law_X4_digest rfl (by decide +kernel) ⟨by decide, by decide⟩ rfl hl.1 rfl (by simp [Value.category]) dL_law_626 ⟨by simp only [room_1, rmX4_digest, rmX5_digest]; omega, by simp only [room_1, rmX4_digest, rmX5_digest]; omega⟩ (fun v Y H locs hq hG => ?_)
        obtain ⟨rfl, X1, rfl, hs1, hg1⟩ := hq
        obtain ⟨hm, hsm⟩ := WD_mid (M' := M) (P' := P) hW hg1
        refine lv_aload_n hx hb dL_law_629 rfl (lv_at hl 2 rfl) ?_
        rw [← hsm] at hG
        refine q_callV (rest := [.long (m_digest n M)]) (k_X5_digest l D cA _ hm hB hL hE ) hC hG cF5 hm.1 0 gL_law_X5_digest rfl (by decide +kernel) ⟨by decide, by decide⟩ rfl hl.1 rfl (by simp [Value.category]) dL_law_630 ⟨by simp only [room_1, rmX4_digest, rmX5_digest]; omega, by simp only [room_1, rmX4_digest, rmX5_digest]; omega⟩ (fun v Y H locs hq hG => ?_)
        obtain ⟨rfl, R1, rfl⟩ := hq
        have hW := WD_end25 hs1 (by omega) hm hI R1
        refine q_lcmpE hC dL_law_633 ?_
        refine lv_if_eq (tgt := 639) hx hb dL_law_634 (by decide) (fun c634 => ?_) (fun c634 => ?_)
        · refine n_iinc (n := 8) (k := 3) (lv' := [(3, .int (nI (j + 8))), (0, .ref b0), (1, .ref b), (2, .ref (b + 7 + 5 * n))]) hC dL_law_639 hl rfl (by decide) rfl (fun ls hl => ?_)
          refine lv_goto (tgt := 28) hx hb dL_law_642 (by decide) ?_
          refine W.widen (k := 60 + 2 * (j + 8)) (n := 31500 + 18 * (j + 8)) (by first | omega | (simp only [rmX4_digest, rmX5_digest]; omega)) (by first | omega | (simp only [rmX4_digest, rmX5_digest]; omega)) ?_
          exact ih (j + 8) _ _ _ _ _ _ (by omega) (by omega) (by omega) hW hG (lv_sub hl [1, 2, 3, 0] rfl)
        · exact absurd rfl c634
      refine lv_tableOut (tgt := 639) hx hb dL_law_43 (sw_out (hi := 15) (fun v hv => by rcases (show v = 0 ∨ v = 1 ∨ v = 2 ∨ v = 3 ∨ v = 4 ∨ v = 5 ∨ v = 6 ∨ v = 7 ∨ v = 8 ∨ v = 9 ∨ v = 10 ∨ v = 11 ∨ v = 12 ∨ v = 13 ∨ v = 14 ∨ v = 15 by omega) with rfl | rfl | rfl | rfl | rfl | rfl | rfl | rfl | rfl | rfl | rfl | rfl | rfl | rfl | rfl | rfl <;> assumption)) (by decide) ?_
      refine n_iinc (n := 8) (k := 3) (lv' := [(3, .int (nI (j + 8))), (0, .ref b0), (1, .ref b), (2, .ref (b + 7 + 5 * n))]) hC dL_law_639 hl rfl (by decide) rfl (fun ls hl => ?_)
      refine lv_goto (tgt := 28) hx hb dL_law_642 (by decide) ?_
      refine W.widen (k := 60 + 2 * (j + 8)) (n := 31500 + 18 * (j + 8)) (by omega) (by omega) ?_
      exact ih (j + 8) _ _ _ _ _ _ (by omega) (by omega) (by omega) hW hG (lv_sub hl [1, 2, 3, 0] rfl)
