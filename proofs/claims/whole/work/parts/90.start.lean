set_option maxHeartbeats 8000000 in
set_option maxRecDepth 100000 in
/-- THE LAW, from its entry -/
theorem whole_start {p : Program} {e : Env} {s : State} {m : MethodId} {below : List Frame} {meth : Method} {c : Code} (l : Launch) {b L : Nat} {xs : Nat → Int32} (hL : L ≤ 4097) (C0 : lw_At p s m meth c b L xs) : W p l e room_1 s m #[Value.ref b] below meth c s.heap [] 0 0 (lw_Z below #[Value.ref b] s) (entryFrame m ([Value.ref b] : List Value).toArray 4) := by
  obtain ⟨hx, hb, hr, hml, hown, hts, hX, hbl, hlocks, hgv⟩ := id C0
  have hbA : ¬ (fun q : Nat => s.heap.size ≤ q) b := Nat.not_le.mpr hbl
  have htl : ∀ w ∈ wsL_law, w.before #[Value.ref b] s = true := fun w h => hts w (wsL_law_in w h)
  obtain ⟨c0, iS0, hK0⟩ := u_known (C := RX0) (T := TX0) (N := 8) (n := 8) hts inX0 (hts (.instantiable RX0 8) (by decide +kernel))
  obtain ⟨c1, iS1, hK1⟩ := u_known (C := RX1) (T := TX1) (N := 1) (n := 1) hts inX1 (hts (.instantiable RX1 1) (by decide +kernel))
  obtain ⟨c2, iS2, hK2⟩ := u_known (C := RX2) (T := TX2) (N := 17) (n := 17) hts inX2 (hts (.instantiable RX2 17) (by decide +kernel))
  obtain ⟨c3, iS3, hK3⟩ := u_known (C := RX3) (T := TX3) (N := 3) (n := 3) hts inX3 (hts (.instantiable RX3 3) (by decide +kernel))
  obtain ⟨c4, iS4, hK4⟩ := u_known (C := RX4) (T := TX4) (N := 3) (n := 3) hts inX4 (hts (.instantiable RX4 3) (by decide +kernel))
  obtain ⟨c5, iS5, hK5⟩ := u_known (C := RX5) (T := TX5) (N := 26) (n := 26) hts inX5 (hts (.instantiable RX5 26) (by decide +kernel))
  obtain ⟨dC, dI, hKc⟩ : ∃ (dC : Nat → ClassId) (dI : Nat → Nat → Nat), ∀ (k : Nat) (q : vw_C), vwCl[k]? = some q → u_Kn s q.1 q.2.1 q.2.2 (dC k) (dI k) := by
    refine ⟨fun k => if k = 0 then c0 else if k = 1 then c1 else if k = 2 then c2 else if k = 3 then c3 else if k = 4 then c4 else c5, fun k => if k = 0 then iS0 else if k = 1 then iS1 else if k = 2 then iS2 else if k = 3 then iS3 else if k = 4 then iS4 else iS5, ?_⟩
    intro k q hq
    match k, hq with
    | 0, hq => cases hq; exact hK0
    | 1, hq => cases hq; exact hK1
    | 2, hq => cases hq; exact hK2
    | 3, hq => cases hq; exact hK3
    | 4, hq => cases hq; exact hK4
    | 5, hq => cases hq; exact hK5
    | k + 6, hq => simp [vwCl] at hq
  obtain ⟨a0, ha0⟩ := kn_arr (ty := .int) (Or.inl rfl) (hts (.arrayClass .int) (by decide +kernel))
  obtain ⟨a1, ha1⟩ := kn_arr (ty := .boolean) (Or.inr rfl) (hts (.arrayClass .boolean) (by decide +kernel))
  have hO0 := hts (.arrayOver (.object RX0)) (by decide +kernel)
  have hO2 := hts (.arrayOver (.object RX2)) (by decide +kernel)
  obtain ⟨a2, ha2⟩ := kn_obj (C := RX0) hO0
  obtain ⟨a3, ha3⟩ := kn_obj (C := RX2) hO2
  obtain ⟨cA, hcA⟩ : ∃ cA : Nat → ClassId, ∀ (k : Nat) (q : ClassId × FieldType), (tyL cA)[k]? = some q → ArrOfT s q.1 q.2 ∧ va_RA s q.1 q.2 := by
    refine ⟨fun k => if k = 0 then a0 else if k = 1 then a1 else if k = 2 then a2 else a3, ?_⟩
    intro k q hq
    match k, hq with
    | 0, hq => cases hq; exact ha0
    | 1, hq => cases hq; exact ha1
    | 2, hq => cases hq; exact ha2
    | 3, hq => cases hq; exact ha3
    | k + 4, hq => simp at hq
  have hC : cx p s m #[Value.ref b] c cL_law 4 wsL_law RL (dC, dI) cA := ⟨⟨hx, hb, hml, hown, htl⟩, hKc, hcA⟩
  have hE : EW s := ⟨va_Nw.of rfl (hts (.methodLinkNest RX4 14 yX3_init RX4) (by decide +kernel)), va_AO.of hO0, va_AO.of hO2⟩
  have hG := gw_0 (dC, dI) cA s.heap
  obtain ⟨nn, hnn⟩ : ∃ nn : Int32, nn = (if 0 < L then xs 0 else 0) := ⟨_, rfl⟩
  obtain ⟨n, f, hn5, hn3, hnf⟩ : ∃ n f : Nat, (nn = nI 5 → n = 5 ∧ f = 2) ∧ (nn ≠ nI 5 → n = 3 ∧ f = 1) ∧ ((n = 3 ∧ f = 1) ∨ (n = 5 ∧ f = 2)) := by
    by_cases h5 : nn = nI 5
    · exact ⟨5, 2, fun _ => ⟨rfl, rfl⟩, fun z => absurd h5 z, Or.inr ⟨rfl, rfl⟩⟩
    · exact ⟨3, 1, fun z => absurd z h5, fun _ => ⟨rfl, rfl⟩, Or.inl ⟨rfl, rfl⟩⟩
  obtain ⟨vb, hvb⟩ : ∃ vb : Nat, vb = s.heap.size := ⟨_, rfl⟩
  have hl := lv_entry ([.ref b]) (n := 4) (Nat.le_of_ble_eq_true rfl)
  rw [lg_entry_eq]
  generalize (lg_sl ([.ref b]) ++ List.replicate (4 - (lg_sl ([.ref b])).length) Slot.unset).toArray = ls at hl ⊢
  have hl : lv_has ls 4 [(0, .ref b)] := hl
  refine q_new hC hG cF4 inlX4 (htl (.classLink RL 7 RX4) (by decide +kernel)) (htl (.instantiable RX4 3) (by decide +kernel)) (htl (.initialized RX4) (by decide +kernel)) (by decide) (by decide) dL_law_0 (fun H hG => ?_)
  rw [show nx (X00 s.heap.size) = vb from hvb.symm]
  refine lv_dup hx hb dL_law_3 rfl ?_
  refine lv_aload_n hx hb dL_law_4 rfl (lv_at hl 0 rfl) ?_
  refine n_iconst hC 0 dL_law_5 ?_
  refine q_callSS (rest := [.ref vb, .ref vb]) (k_L_cell l (dC, dI) cA _ b L xs hL hbA) hC hG hX hbl hbA 2 gL_law_L_cell rfl (by decide +kernel) ⟨by decide, by decide⟩ rfl hl.1 rfl (by simp [Value.category]) dL_law_6 ⟨by simp only [room_1, rmX4_init, rmX5_init, rmL_cell]; omega, by simp only [room_1, rmX4_init, rmX5_init, rmL_cell]; omega⟩ (fun v Y0 H locs hq hG => ?_)
  obtain ⟨rfl, rfl⟩ := hq
  rw [← hnn]
  refine q_callIE (rest := [.ref vb]) (k_X4_init l (dC, dI) cA _ (X := nw (X00 s.heap.size) 5 0) vb n f nn (kd_nw_e hvb) (by rw [nx_nw]; exact congrArg (· + 1) hvb.symm) hn5 hn3) hC hG hE 1 gL_law_X4_init rfl (htl (.initialized yX4_init.cls) (by decide +kernel)) (htl (.methodLink RL 15 yX4_init) (by decide +kernel)) (htl (.instanceMethod yX4_init) (by decide +kernel)) rfl (by decide +kernel) ⟨by decide, by decide⟩ rfl hl.1 rfl (by simp [Value.category]) dL_law_9 ⟨by simp only [room_1, rmX4_init, rmX5_init, rmL_cell]; omega, by simp only [room_1, rmX4_init, rmX5_init, rmL_cell]; omega⟩ (fun v Y H locs hq hG => ?_)
  obtain ⟨rfl, hF⟩ := hq
  refine lv_astore_n (lv' := [(1, .ref vb), (0, .ref b)]) hx hb dL_law_12 rfl hl (by decide) rfl (fun ls hl => ?_)
  refine q_new hC hG cF5 inlX5 (htl (.classLink RL 18 RX5) (by decide +kernel)) (htl (.instantiable RX5 26) (by decide +kernel)) (htl (.initialized RX5) (by decide +kernel)) (by simp only [room_1, rmX4_init, rmX5_init, rmL_cell]; omega) (by simp only [room_1, rmX4_init, rmX5_init, rmL_cell]; omega) dL_law_13 (fun H hG => ?_)
  refine lv_dup hx hb dL_law_16 rfl ?_
  refine lv_aload_n hx hb dL_law_17 rfl (lv_at hl 1 rfl) ?_
  refine n_iconst hC 0 dL_law_18 ?_
  refine q_callSS (rest := [.ref (nx Y), .ref (nx Y)]) (k_L_cell l (dC, dI) cA _ b L xs hL hbA) hC hG hX hbl hbA 2 gL_law_L_cell rfl (by decide +kernel) ⟨by decide, by decide⟩ rfl hl.1 rfl (by simp [Value.category]) dL_law_19 ⟨by simp only [room_1, rmX4_init, rmX5_init, rmL_cell]; omega, by simp only [room_1, rmX4_init, rmX5_init, rmL_cell]; omega⟩ (fun v Y0 H locs hq hG => ?_)
  obtain ⟨rfl, rfl⟩ := hq
  rw [← hnn]
  refine q_callI (rest := [.ref (nx Y)]) (k_X5_init l (dC, dI) cA _ (X := nw Y 6 0) (nx Y) n f nn (kd_nw_e rfl) (by rw [nx_nw]; omega) hn5 hn3) hC hG 1 gL_law_X5_init rfl (htl (.initialized yX5_init.cls) (by decide +kernel)) (htl (.methodLink RL 20 yX5_init) (by decide +kernel)) (htl (.instanceMethod yX5_init) (by decide +kernel)) rfl (by decide +kernel) ⟨by decide, by decide⟩ rfl hl.1 rfl (by simp [Value.category]) dL_law_22 ⟨by simp only [room_1, rmX4_init, rmX5_init, rmL_cell]; omega, by simp only [room_1, rmX4_init, rmX5_init, rmL_cell]; omega⟩ (fun v Y2 H locs hq hG => ?_)
  obtain ⟨rfl, hN⟩ := hq
  obtain ⟨hnx, hW⟩ := WD_0 hnf hF rfl hN
  rw [hnx]
  refine lv_astore_n (lv' := [(2, .ref (vb + 7 + 5 * n)), (1, .ref vb), (0, .ref b)]) hx hb dL_law_25 rfl hl (by decide) rfl (fun ls hl => ?_)
  refine n_iconst hC 1 dL_law_26 ?_
  refine lv_istore_n (lv' := [(3, .int (nI 1)), (2, .ref (vb + 7 + 5 * n)), (1, .ref vb), (0, .ref b)]) hx hb dL_law_27 rfl hl (by decide) rfl (fun ls hl => ?_)
  refine W.widen (k := 60 + 2 * 1) (n := 31500 + 18 * 1) (by simp only [rmX4_init, rmX5_init, rmL_cell]; omega) (by simp only [rmX4_init, rmX5_init, rmL_cell]; omega) ?_
  exact law_loop l hL hX hbl hC hr hlocks 5001 1 _ _ _ _ _ _ (by omega) (by omega) (by omega) hW hG (lv_sub hl [3, 2, 1, 0] rfl)
