/-- array 25 (scratch) replaced -/
def m25 (M : MM) (R : Nat → Nat) : MM := fun x y => if x = 25 then R y else M x y
theorem m25_ne (M : MM) (R : Nat → Nat) {x : Nat} (y : Nat) (h : x ≠ 25) : m25 M R x y = M x y := if_neg h
theorem m25_at (M : MM) (R : Nat → Nat) (y : Nat) : m25 M R 25 y = R y := if_pos rfl
theorem m25_up (M : MM) (R : Nat → Nat) (j v : Nat) : up2 (m25 M R) 25 j v = m25 M (va_up R j v) := by
  funext x y
  unfold up2 m25 va_up
  by_cases h : x = 25
  · subst h; simp
  · simp [h]
theorem m25_25 (M : MM) (R R' : Nat → Nat) : m25 (m25 M R) R' = m25 M R' := by
  funext x y
  unfold m25
  by_cases h : x = 25 <;> simp [h]
theorem m25_self (M : MM) : m25 M (M 25) = M := by
  funext x y
  unfold m25
  by_cases h : x = 25 <;> simp [h]
theorem bM_25 {M : MM} (h : bM M) (R : Nat → Nat) : bM (m25 M R) := by
  refine ⟨fun x y hx => ?_, ?_⟩
  · unfold m25
    split
    · rename_i h2; subst h2; cases hx
    · exact h.1 x y hx
  · rw [m25_ne _ _ _ (by decide)]; exact h.2
theorem m_cnt_25 (M : MM) (R : Nat → Nat) (x base : Nat) (h : x ≠ 25) : ∀ j, m_cnt (m25 M R) x base j = m_cnt M x base j := by
  intro j
  induction j with
  | zero => rfl
  | succ j ih => simp only [m_cnt, ih, m25_ne _ _ _ h]
theorem m_node_25 (n : Nat) (M : MM) (R : Nat → Nat) (node what : Int32) : m_node n (m25 M R) node what = m_node n M node what := by
  simp only [m_node, m_nd, m25_ne M R _ (show 3 ≠ 25 by decide), m25_ne M R _ (show 4 ≠ 25 by decide), m25_ne M R _ (show 5 ≠ 25 by decide), m25_ne M R _ (show 6 ≠ 25 by decide), m25_ne M R _ (show 7 ≠ 25 by decide), m25_ne M R _ (show 8 ≠ 25 by decide), m_cnt_25 M R 11 _ (by decide), m_cnt_25 M R 12 _ (by decide), m_cnt_25 M R 14 _ (by decide)]
theorem m_letter_25 (M : MM) (R : Nat → Nat) (letter what : Int32) : m_letter (m25 M R) letter what = m_letter M letter what := by
  simp only [m_letter, m_lf, m25_ne M R _ (show 3 ≠ 25 by decide), m25_ne M R _ (show 4 ≠ 25 by decide), m25_ne M R _ (show 17 ≠ 25 by decide), m25_ne M R _ (show 19 ≠ 25 by decide), m25_ne M R _ (show 20 ≠ 25 by decide), m25_ne M R _ (show 21 ≠ 25 by decide), m25_ne M R _ (show 22 ≠ 25 by decide), m25_ne M R _ (show 23 ≠ 25 by decide), m25_ne M R _ (show 24 ≠ 25 by decide)]
theorem mL_25 {M : MM} (h : mL M) (R : Nat → Nat) : mL (m25 M R) := fun g hg => by
  rw [m25_ne _ _ _ (by decide), m25_ne _ _ _ (by decide)]; exact h g hg
theorem mE_25 {M : MM} (h : mE M) (R : Nat → Nat) : mE (m25 M R) := fun g k hg hk => by
  rw [m25_ne _ _ _ (by decide)] at hk
  simp only [m25_ne M R _ (show 2 ≠ 25 by decide)]
  exact h g k hg hk
/-- the registers behind k entries; E k c: field c of entry k -/
def rg (E : Nat → Nat → Nat) : Nat → Nat → Int32
  | 0, _ => 0
  | k + 1, r =>
    if E k 2 = 0 then (if r = E k 3 then nI (E k 5) else rg E k r)
    else if E k 2 = 1 then (if r = E k 3 then rg E k r + nI (E k 5) else rg E k r)
    else if rg E k (E k 3) < nI (E k 5) then rg E k r
    else if r = E k 4 then (if r = E k 3 then rg E k r - nI (E k 5) else rg E k r) + nI (E k 5) else (if r = E k 3 then rg E k r - nI (E k 5) else rg E k r)
def m_E (M : MM) (i : Nat) : Nat → Nat → Nat := fun k c => M 2 (96 * i + 6 * k + c)
def m_register (n : Nat) (M : MM) (node r : Int32) : Int32 :=
  if m_isNode n node = 0 then -2147483648 else if m_in r (nI 0) (nI 7) = 0 then -2147483648 else rg (m_E M (tN node)) (M 4 (tN node)) (tN r)
theorem m_register_25 (n : Nat) (M : MM) (R : Nat → Nat) (node r : Int32) : m_register n (m25 M R) node r = m_register n M node r := by
  have e : ∀ i, m_E (m25 M R) i = m_E M i := fun i => by
    funext k c
    exact m25_ne M R _ (by decide)
  simp only [m_register, e, m25_ne M R _ (show 4 ≠ 25 by decide)]

abbrev rmX5_register : Room := { frames := 2, cells := 0, slots := 0, locals := 43 }
set_option maxHeartbeats 4000000 in
set_option maxRecDepth 100000 in
theorem k_X5_register (l : Launch) (D : va_G) (cA : Nat → ClassId) (A : Nat → Prop) {mb n f : Nat} {X : Mem} {M : MM} (hS : mS mb n f X) (hB : bM M) (hL : mL M) (hE : mE M) (node r : Int32) : mt l D cA A yX5_register wsX5_register rmX5_register [.ref mb, .int node, .int r] (sM mb X M) (fun w Y => w = some (.int (m_register n M node r)) ∧ ∃ R : Nat → Nat, Y = sM mb X (m25 M R)) := by
  refine q_start (by decide) rfl (Nat.le_of_ble_eq_true rfl) (fun p e s m args below meth c H locs hC hr hlk hnm hG ls hl => ?_)
  have hl : lv_has ls 8 [(0, .ref mb), (1, .int node), (2, .int r)] := hl
  have hx := hC.1.1
  have hb := hC.1.2.1
  have hts := hC.1.2.2.2.2
  have i5 : ∀ w ∈ wsX50, w ∈ wsX5_register := by decide +kernel
  have hnf := hS.2.2.2.2
  have hB0 := hB
  have k7 := hts (.fieldLink RX5 7 "ViewStampsModel" "logs" "[I") (by decide +kernel)
  have k16 := hts (.fieldLink RX5 16 "ViewStampsModel" "sure" "[I") (by decide +kernel)
  have k74 := hts (.fieldLink RX5 74 "ViewStampsModel" "registers" "[I") (by decide +kernel)
  have loop2 : ∀ (d : Nat) (i q k : Nat) (R : Nat → Nat) (H : Heap) (locs : List Loc) (ls : Array Slot), M 4 i - k < d → i < n → q < 8 → k ≤ M 4 i → (∀ x, x < 8 → nI (R x) = rg (m_E M i) k x) → rg (m_E M i) (M 4 i) q = m_register n M node r → gw D cA A (sM mb X (m25 M R)) s.heap H locs → lv_has ls 8 [(0, .ref mb), (1, .int (nI i)), (2, .int (nI q)), (3, .int (nI k))] → W p l e rmX5_register s m args below meth c H locs 0 0 (MQ below (mQ D cA A (fun w Y => w = some (.int (m_register n M node r)) ∧ ∃ R : Nat → Nat, Y = sM mb X (m25 M R))) args s rmX5_register.cells rmX5_register.slots A) (F0 m 44 ls []) := by
    intro d
    induction d with
    | zero => intro i q k R H locs ls hd; exact absurd hd (Nat.not_lt_zero _)
    | succ d ih =>
      intro i q k R H locs ls hd hi hq hk hR hT hG hl
      have hB := bM_25 hB0 R
      have hL0 := hL i (by omega)
      refine lv_iload_n hx hb dX5_register_44 rfl (lv_at hl 3 rfl) ?_
      refine lv_aload_n hx hb dX5_register_45 rfl (lv_at hl 0 rfl) ?_
      refine q_mg hC hG hS i5 4 rfl k16 dX5_register_46 ?_
      refine lv_iload_n hx hb dX5_register_49 rfl (lv_at hl 1 rfl) ?_
      refine q_ml (N := 295) (w := M 4 i) hC hG hS 4 rfl rfl rfl (by omega) (m25_ne _ _ _ (by decide)) dX5_register_50 ?_
      have b1 : M 4 i < 2147483648 := hB0.1 4 i rfl
      refine n_ge (tgt := 192) hC dX5_register_51 (by decide) (by omega) (by omega) (fun c51 => ?_) (fun c51 => ?_)
      · have c51n := Nat.not_lt.mpr c51
        refine lv_aload_n hx hb dX5_register_192 rfl (lv_at hl 0 rfl) ?_
        refine q_mg hC hG hS i5 25 rfl k74 dX5_register_193 ?_
        refine lv_iload_n hx hb dX5_register_196 rfl (lv_at hl 2 rfl) ?_
        refine q_ml (N := 8) (w := R q) hC hG hS 25 rfl rfl rfl (by omega) (m25_at _ _ _) dX5_register_197 ?_
        exact q_iret (v := (nI (R q))) hC hG hr hlk (⟨by rw [← hT, ← show k = M 4 i by omega, hR q hq], _, rfl⟩) dX5_register_198
      · have c51n := Nat.not_le.mpr c51
        have ent := hE i k (by omega) (by omega)
        refine n_bipush hC 96 (by decide) dX5_register_54 ?_
        refine lv_iload_n hx hb dX5_register_56 rfl (lv_at hl 1 rfl) ?_
        refine n_imul hC dX5_register_57 ?_
        refine n_bipush hC 6 (by decide) dX5_register_58 ?_
        refine lv_iload_n hx hb dX5_register_60 rfl (lv_at hl 3 rfl) ?_
        refine n_imul hC dX5_register_61 ?_
        refine n_iadd hC dX5_register_62 ?_
        refine lv_istore (lv' := [(4, .int (nI ((96 * i) + (6 * k)))), (0, .ref mb), (1, .int (nI i)), (2, .int (nI q)), (3, .int (nI k))]) hx hb dX5_register_63 hl (by decide) rfl (fun ls hl => ?_)
        refine lv_aload_n hx hb dX5_register_65 rfl (lv_at hl 1 rfl) ?_
        refine q_mg hC hG hS i5 2 rfl k7 dX5_register_66 ?_
        refine lv_iload hx hb dX5_register_69 (lv_at hl 0 rfl) ?_
        refine n_iconst hC 3 dX5_register_71 ?_
        refine n_iadd hC dX5_register_72 ?_
        refine q_ml (N := 28320) (w := M 2 (((96 * i) + (6 * k)) + 3)) hC hG hS 2 rfl rfl rfl (by omega) (m25_ne _ _ _ (by decide)) dX5_register_73 ?_
        refine lv_istore (lv' := [(5, .int (nI (M 2 (((96 * i) + (6 * k)) + 3)))), (4, .int (nI ((96 * i) + (6 * k)))), (0, .ref mb), (1, .int (nI i)), (2, .int (nI q)), (3, .int (nI k))]) hx hb dX5_register_74 hl (by decide) rfl (fun ls hl => ?_)
        refine lv_aload_n hx hb dX5_register_76 rfl (lv_at hl 2 rfl) ?_
        refine q_mg hC hG hS i5 2 rfl k7 dX5_register_77 ?_
        refine lv_iload hx hb dX5_register_80 (lv_at hl 1 rfl) ?_
        refine n_iconst hC 4 dX5_register_82 ?_
        refine n_iadd hC dX5_register_83 ?_
        refine q_ml (N := 28320) (w := M 2 (((96 * i) + (6 * k)) + 4)) hC hG hS 2 rfl rfl rfl (by omega) (m25_ne _ _ _ (by decide)) dX5_register_84 ?_
        refine lv_istore (lv' := [(6, .int (nI (M 2 (((96 * i) + (6 * k)) + 4)))), (5, .int (nI (M 2 (((96 * i) + (6 * k)) + 3)))), (4, .int (nI ((96 * i) + (6 * k)))), (0, .ref mb), (1, .int (nI i)), (2, .int (nI q)), (3, .int (nI k))]) hx hb dX5_register_85 hl (by decide) rfl (fun ls hl => ?_)
        refine lv_aload_n hx hb dX5_register_87 rfl (lv_at hl 3 rfl) ?_
        refine q_mg hC hG hS i5 2 rfl k7 dX5_register_88 ?_
        refine lv_iload hx hb dX5_register_91 (lv_at hl 2 rfl) ?_
        refine n_iconst hC 5 dX5_register_93 ?_
        refine n_iadd hC dX5_register_94 ?_
        refine q_ml (N := 28320) (w := M 2 (((96 * i) + (6 * k)) + 5)) hC hG hS 2 rfl rfl rfl (by omega) (m25_ne _ _ _ (by decide)) dX5_register_95 ?_
        refine lv_istore (lv' := [(7, .int (nI (M 2 (((96 * i) + (6 * k)) + 5)))), (6, .int (nI (M 2 (((96 * i) + (6 * k)) + 4)))), (5, .int (nI (M 2 (((96 * i) + (6 * k)) + 3)))), (4, .int (nI ((96 * i) + (6 * k)))), (0, .ref mb), (1, .int (nI i)), (2, .int (nI q)), (3, .int (nI k))]) hx hb dX5_register_96 hl (by decide) rfl (fun ls hl => ?_)
        refine lv_aload_n hx hb dX5_register_98 rfl (lv_at hl 4 rfl) ?_
        refine q_mg hC hG hS i5 2 rfl k7 dX5_register_99 ?_
        refine lv_iload hx hb dX5_register_102 (lv_at hl 3 rfl) ?_
        refine n_iconst hC 2 dX5_register_104 ?_
        refine n_iadd hC dX5_register_105 ?_
        refine q_ml (N := 28320) (w := M 2 (((96 * i) + (6 * k)) + 2)) hC hG hS 2 rfl rfl rfl (by omega) (m25_ne _ _ _ (by decide)) dX5_register_106 ?_
        refine n_ifne (tgt := 122) hC dX5_register_107 (by decide) (by omega) (fun c107 => ?_) (fun c107 => ?_)
        · refine lv_aload_n hx hb dX5_register_122 rfl (lv_at hl 4 rfl) ?_
          refine q_mg hC hG hS i5 2 rfl k7 dX5_register_123 ?_
          refine lv_iload hx hb dX5_register_126 (lv_at hl 3 rfl) ?_
          refine n_iconst hC 2 dX5_register_128 ?_
          refine n_iadd hC dX5_register_129 ?_
          refine q_ml (N := 28320) (w := M 2 (((96 * i) + (6 * k)) + 2)) hC hG hS 2 rfl rfl rfl (by omega) (m25_ne _ _ _ (by decide)) dX5_register_130 ?_
          refine n_iconst hC 1 dX5_register_131 ?_
          refine n_ne (tgt := 150) hC dX5_register_132 (by decide) (by omega) (by omega) (fun c132 => ?_) (fun c132 => ?_)
          · refine lv_aload_n hx hb dX5_register_150 rfl (lv_at hl 4 rfl) ?_
            refine q_mg hC hG hS i5 25 rfl k74 dX5_register_151 ?_
            refine lv_iload hx hb dX5_register_154 (lv_at hl 2 rfl) ?_
            refine q_ml (N := 8) (w := R (M 2 (((96 * i) + (6 * k)) + 3))) hC hG hS 25 rfl rfl rfl (by omega) (m25_at _ _ _) dX5_register_156 ?_
            refine lv_iload hx hb dX5_register_157 (lv_at hl 0 rfl) ?_
            refine lv_icmp_lt (tgt := 186) hx hb dX5_register_159 (by decide) (fun c159 => ?_) (fun c159 => ?_)
            · refine n_iinc (n := 1) (k := 7) (lv' := [(3, .int (nI (k + 1))), (7, .int (nI (M 2 (((96 * i) + (6 * k)) + 5)))), (6, .int (nI (M 2 (((96 * i) + (6 * k)) + 4)))), (5, .int (nI (M 2 (((96 * i) + (6 * k)) + 3)))), (4, .int (nI ((96 * i) + (6 * k)))), (0, .ref mb), (1, .int (nI i)), (2, .int (nI q))]) hC dX5_register_186 hl rfl (by decide) rfl (fun ls hl => ?_)
              refine lv_goto (tgt := 44) hx hb dX5_register_189 (by decide) ?_
              refine ih i q (k + 1) _ _ _ _ (by omega) hi hq (by omega) (fun x hx => ?_) hT hG (lv_sub hl [5, 6, 7, 0] rfl)
              have e3 : m_E M i k 3 = M 2 (96 * i + 6 * k + 3) := rfl
              have e4 : m_E M i k 4 = M 2 (96 * i + 6 * k + 4) := rfl
              have e5 : m_E M i k 5 = M 2 (96 * i + 6 * k + 5) := rfl
              have e2 : m_E M i k 2 = M 2 (96 * i + 6 * k + 2) := rfl
              rw [hR _ (by omega)] at c159
              simp only [rg, e2, e3, e4, e5, if_neg c107, if_neg c132, if_pos c159, ↓reduceIte]
              exact hR x hx
            · refine lv_aload_n hx hb dX5_register_162 rfl (lv_at hl 4 rfl) ?_
              refine q_mg hC hG hS i5 25 rfl k74 dX5_register_163 ?_
              refine lv_iload hx hb dX5_register_166 (lv_at hl 2 rfl) ?_
              refine lv_dup2_11 hx hb dX5_register_168 rfl rfl ?_
              refine q_ml (N := 8) (w := R (M 2 (((96 * i) + (6 * k)) + 3))) hC hG hS 25 rfl rfl rfl (by omega) (m25_at _ _ _) dX5_register_169 ?_
              refine lv_iload hx hb dX5_register_170 (lv_at hl 0 rfl) ?_
              refine lv_isub hx hb dX5_register_172 ?_
              rw [show (nI (R (M 2 (((96 * i) + (6 * k)) + 3)))) - (nI (M 2 (((96 * i) + (6 * k)) + 5))) = nI (tN ((nI (R (M 2 (((96 * i) + (6 * k)) + 3)))) - (nI (M 2 (((96 * i) + (6 * k)) + 5))))) from (nI_tN _).symm]
              refine q_ms (N := 8) hC hG hS 25 rfl rfl rfl (by omega) dX5_register_173 (fun H locs hG => ?_)
              rw [m25_up] at hG
              have hB := bM_25 hB0 (va_up R (M 2 (((96 * i) + (6 * k)) + 3)) (tN ((nI (R (M 2 (((96 * i) + (6 * k)) + 3)))) - (nI (M 2 (((96 * i) + (6 * k)) + 5))))))
              refine lv_aload_n hx hb dX5_register_174 rfl (lv_at hl 4 rfl) ?_
              refine q_mg hC hG hS i5 25 rfl k74 dX5_register_175 ?_
              refine lv_iload hx hb dX5_register_178 (lv_at hl 1 rfl) ?_
              refine lv_dup2_11 hx hb dX5_register_180 rfl rfl ?_
              refine q_ml (N := 8) (w := (va_up R (M 2 (((96 * i) + (6 * k)) + 3)) (tN ((nI (R (M 2 (((96 * i) + (6 * k)) + 3)))) - (nI (M 2 (((96 * i) + (6 * k)) + 5)))))) (M 2 (((96 * i) + (6 * k)) + 4))) hC hG hS 25 rfl rfl rfl (by omega) (m25_at _ _ _) dX5_register_181 ?_
              refine lv_iload hx hb dX5_register_182 (lv_at hl 0 rfl) ?_
              refine n_iadd hC dX5_register_184 ?_
              refine q_ms (N := 8) hC hG hS 25 rfl rfl rfl (by omega) dX5_register_185 (fun H locs hG => ?_)
              rw [m25_up] at hG
              have hB := bM_25 hB0 (va_up (va_up R (M 2 (((96 * i) + (6 * k)) + 3)) (tN ((nI (R (M 2 (((96 * i) + (6 * k)) + 3)))) - (nI (M 2 (((96 * i) + (6 * k)) + 5)))))) (M 2 (((96 * i) + (6 * k)) + 4)) (((va_up R (M 2 (((96 * i) + (6 * k)) + 3)) (tN ((nI (R (M 2 (((96 * i) + (6 * k)) + 3)))) - (nI (M 2 (((96 * i) + (6 * k)) + 5)))))) (M 2 (((96 * i) + (6 * k)) + 4))) + (M 2 (((96 * i) + (6 * k)) + 5))))
              refine n_iinc (n := 1) (k := 7) (lv' := [(3, .int (nI (k + 1))), (7, .int (nI (M 2 (((96 * i) + (6 * k)) + 5)))), (6, .int (nI (M 2 (((96 * i) + (6 * k)) + 4)))), (5, .int (nI (M 2 (((96 * i) + (6 * k)) + 3)))), (4, .int (nI ((96 * i) + (6 * k)))), (0, .ref mb), (1, .int (nI i)), (2, .int (nI q))]) hC dX5_register_186 hl rfl (by decide) rfl (fun ls hl => ?_)
              refine lv_goto (tgt := 44) hx hb dX5_register_189 (by decide) ?_
              refine ih i q (k + 1) _ _ _ _ (by omega) hi hq (by omega) (fun x hx => ?_) hT hG (lv_sub hl [5, 6, 7, 0] rfl)
              have e3 : m_E M i k 3 = M 2 (96 * i + 6 * k + 3) := rfl
              have e4 : m_E M i k 4 = M 2 (96 * i + 6 * k + 4) := rfl
              have e5 : m_E M i k 5 = M 2 (96 * i + 6 * k + 5) := rfl
              have e2 : m_E M i k 2 = M 2 (96 * i + 6 * k + 2) := rfl
              rw [hR _ (by omega)] at c159
              simp only [rg, e2, e3, e4, e5, if_neg c107, if_neg c132, if_neg c159, ↓reduceIte]
              have hx0 := hR x hx
              have hx1 := hR (M 2 (96 * i + 6 * k + 3)) (by omega)
              have hx2 := hR (M 2 (96 * i + 6 * k + 4)) (by omega)
              simp only [va_up]
              split <;> (try split) <;> (try split) <;> simp_all [nI_tN, ← nI_add]
          · refine lv_aload_n hx hb dX5_register_135 rfl (lv_at hl 4 rfl) ?_
            refine q_mg hC hG hS i5 25 rfl k74 dX5_register_136 ?_
            refine lv_iload hx hb dX5_register_139 (lv_at hl 2 rfl) ?_
            refine lv_dup2_11 hx hb dX5_register_141 rfl rfl ?_
            refine q_ml (N := 8) (w := R (M 2 (((96 * i) + (6 * k)) + 3))) hC hG hS 25 rfl rfl rfl (by omega) (m25_at _ _ _) dX5_register_142 ?_
            refine lv_iload hx hb dX5_register_143 (lv_at hl 0 rfl) ?_
            refine n_iadd hC dX5_register_145 ?_
            refine q_ms (N := 8) hC hG hS 25 rfl rfl rfl (by omega) dX5_register_146 (fun H locs hG => ?_)
            rw [m25_up] at hG
            have hB := bM_25 hB0 (va_up R (M 2 (((96 * i) + (6 * k)) + 3)) ((R (M 2 (((96 * i) + (6 * k)) + 3))) + (M 2 (((96 * i) + (6 * k)) + 5))))
            refine lv_goto (tgt := 186) hx hb dX5_register_147 (by decide) ?_
            refine n_iinc (n := 1) (k := 7) (lv' := [(3, .int (nI (k + 1))), (7, .int (nI (M 2 (((96 * i) + (6 * k)) + 5)))), (6, .int (nI (M 2 (((96 * i) + (6 * k)) + 4)))), (5, .int (nI (M 2 (((96 * i) + (6 * k)) + 3)))), (4, .int (nI ((96 * i) + (6 * k)))), (0, .ref mb), (1, .int (nI i)), (2, .int (nI q))]) hC dX5_register_186 hl rfl (by decide) rfl (fun ls hl => ?_)
            refine lv_goto (tgt := 44) hx hb dX5_register_189 (by decide) ?_
            refine ih i q (k + 1) _ _ _ _ (by omega) hi hq (by omega) (fun x hx => ?_) hT hG (lv_sub hl [5, 6, 7, 0] rfl)
            have e3 : m_E M i k 3 = M 2 (96 * i + 6 * k + 3) := rfl
            have e4 : m_E M i k 4 = M 2 (96 * i + 6 * k + 4) := rfl
            have e5 : m_E M i k 5 = M 2 (96 * i + 6 * k + 5) := rfl
            have e2 : m_E M i k 2 = M 2 (96 * i + 6 * k + 2) := rfl
            simp only [rg, e2, e3, e4, e5, if_neg c107, if_pos c132, ↓reduceIte]
            have hx0 := hR x hx
            have hx1 := hR (M 2 (96 * i + 6 * k + 3)) (by omega)
            have hx2 := hR (M 2 (96 * i + 6 * k + 4)) (by omega)
            simp only [va_up]
            split <;> (try split) <;> (try split) <;> simp_all [nI_tN, ← nI_add]
        · refine lv_aload_n hx hb dX5_register_110 rfl (lv_at hl 4 rfl) ?_
          refine q_mg hC hG hS i5 25 rfl k74 dX5_register_111 ?_
          refine lv_iload hx hb dX5_register_114 (lv_at hl 2 rfl) ?_
          refine lv_iload hx hb dX5_register_116 (lv_at hl 0 rfl) ?_
          refine q_ms (N := 8) hC hG hS 25 rfl rfl rfl (by omega) dX5_register_118 (fun H locs hG => ?_)
          rw [m25_up] at hG
          have hB := bM_25 hB0 (va_up R (M 2 (((96 * i) + (6 * k)) + 3)) (M 2 (((96 * i) + (6 * k)) + 5)))
          refine lv_goto (tgt := 186) hx hb dX5_register_119 (by decide) ?_
          refine n_iinc (n := 1) (k := 7) (lv' := [(3, .int (nI (k + 1))), (7, .int (nI (M 2 (((96 * i) + (6 * k)) + 5)))), (6, .int (nI (M 2 (((96 * i) + (6 * k)) + 4)))), (5, .int (nI (M 2 (((96 * i) + (6 * k)) + 3)))), (4, .int (nI ((96 * i) + (6 * k)))), (0, .ref mb), (1, .int (nI i)), (2, .int (nI q))]) hC dX5_register_186 hl rfl (by decide) rfl (fun ls hl => ?_)
          refine lv_goto (tgt := 44) hx hb dX5_register_189 (by decide) ?_
          refine ih i q (k + 1) _ _ _ _ (by omega) hi hq (by omega) (fun x hx => ?_) hT hG (lv_sub hl [5, 6, 7, 0] rfl)
          have e3 : m_E M i k 3 = M 2 (96 * i + 6 * k + 3) := rfl
          have e4 : m_E M i k 4 = M 2 (96 * i + 6 * k + 4) := rfl
          have e5 : m_E M i k 5 = M 2 (96 * i + 6 * k + 5) := rfl
          have e2 : m_E M i k 2 = M 2 (96 * i + 6 * k + 2) := rfl
          simp only [rg, e2, e3, e4, e5, if_pos c107, ↓reduceIte]
          have hx0 := hR x hx
          have hx1 := hR (M 2 (96 * i + 6 * k + 3)) (by omega)
          have hx2 := hR (M 2 (96 * i + 6 * k + 4)) (by omega)
          simp only [va_up]
          split <;> (try split) <;> (try split) <;> simp_all [nI_tN, ← nI_add]
  have loop1 : ∀ (d : Nat) (i q k : Nat) (R : Nat → Nat) (H : Heap) (locs : List Loc) (ls : Array Slot), 8 - k < d → i < n → q < 8 → k ≤ 8 → (∀ x, x < k → R x = 0) → rg (m_E M i) (M 4 i) q = m_register n M node r → gw D cA A (sM mb X (m25 M R)) s.heap H locs → lv_has ls 8 [(0, .ref mb), (1, .int (nI i)), (2, .int (nI q)), (3, .int (nI k))] → W p l e rmX5_register s m args below meth c H locs 0 0 (MQ below (mQ D cA A (fun w Y => w = some (.int (m_register n M node r)) ∧ ∃ R : Nat → Nat, Y = sM mb X (m25 M R))) args s rmX5_register.cells rmX5_register.slots A) (F0 m 23 ls []) := by
    intro d
    induction d with
    | zero => intro i q k R H locs ls hd; exact absurd hd (Nat.not_lt_zero _)
    | succ d ih =>
      intro i q k R H locs ls hd hi hq hk hR hT hG hl
      have hB := bM_25 hB0 R
      refine lv_iload_n hx hb dX5_register_23 rfl (lv_at hl 3 rfl) ?_
      refine n_bipush hC 8 (by decide) dX5_register_24 ?_
      refine n_ge (tgt := 42) hC dX5_register_26 (by decide) (by omega) (by omega) (fun c26 => ?_) (fun c26 => ?_)
      · have c26n := Nat.not_lt.mpr c26
        refine n_iconst hC 0 dX5_register_42 ?_
        refine lv_istore_n (lv' := [(3, .int (nI 0)), (0, .ref mb), (1, .int (nI i)), (2, .int (nI q))]) hx hb dX5_register_43 rfl hl (by decide) rfl (fun ls hl => ?_)
        exact loop2 (M 4 i + 1) i q 0 R _ _ _ (by omega) hi hq (by omega) (fun x hx => by rw [hR x (by omega)]; rfl) hT hG (lv_sub hl [1, 2, 3, 0] rfl)
      · have c26n := Nat.not_le.mpr c26
        refine lv_aload_n hx hb dX5_register_29 rfl (lv_at hl 0 rfl) ?_
        refine q_mg hC hG hS i5 25 rfl k74 dX5_register_30 ?_
        refine lv_iload_n hx hb dX5_register_33 rfl (lv_at hl 3 rfl) ?_
        refine n_iconst hC 0 dX5_register_34 ?_
        refine q_ms (N := 8) hC hG hS 25 rfl rfl rfl (by omega) dX5_register_35 (fun H locs hG => ?_)
        rw [m25_up] at hG
        have hB := bM_25 hB0 (va_up R k 0)
        refine n_iinc (n := 1) (k := 3) (lv' := [(3, .int (nI (k + 1))), (0, .ref mb), (1, .int (nI i)), (2, .int (nI q))]) hC dX5_register_36 hl rfl (by decide) rfl (fun ls hl => ?_)
        refine lv_goto (tgt := 23) hx hb dX5_register_39 (by decide) ?_
        exact ih i q (k + 1) _ _ _ _ (by omega) hi hq (by omega) (fun x hx => by simp only [va_up]; split <;> first | rfl | exact hR x (by omega)) hT hG (lv_sub hl [1, 2, 3, 0] rfl)
  refine lv_aload_n hx hb dX5_register_0 rfl (lv_at hl 0 rfl) ?_
  refine lv_iload_n hx hb dX5_register_1 rfl (lv_at hl 1 rfl) ?_
  refine q_callV (rest := []) (k_X5_isNode l D cA A hS hB node) hC hG cF5 hS.1 1 gX5_register_X5_isNode rfl (by decide +kernel) ⟨by decide, by decide⟩ rfl hl.1 rfl (by simp [Value.category]) dX5_register_2 ⟨Nat.le_of_ble_eq_true rfl, Nat.le_of_ble_eq_true rfl⟩ (fun v Y H locs hq hG => ?_)
  obtain ⟨rfl, rfl⟩ := hq
  have q2 : m_isNode n node ≤ 1 := m_in_le _ _ _
  refine n_ifeq (tgt := 18) hC dX5_register_5 (by decide) (by omega) (fun c5 => ?_) (fun c5 => ?_)
  · refine lv_ldc (v := (-2147483648)) hx hb hC.1.2.2.2.1 (hts (.constant RX5 177 (-2147483648)) (by decide +kernel)) dX5_register_18 ?_
    exact q_iret (v := (-2147483648)) hC hG hr hlk (⟨by simp only [m_register, if_pos c5, ↓reduceIte], M 25, by rw [m25_self]⟩) dX5_register_20
  · refine lv_iload_n hx hb dX5_register_8 rfl (lv_at hl 2 rfl) ?_
    refine n_iconst hC 0 dX5_register_9 ?_
    refine n_bipush hC 7 (by decide) dX5_register_10 ?_
    refine q_callS (rest := []) (k_X5_in l D cA A _ r (nI 0) (nI 7)) hC hG 3 gX5_register_X5_in rfl (by decide +kernel) ⟨by decide, by decide⟩ rfl hl.1 rfl (by simp [Value.category]) dX5_register_12 ⟨Nat.le_of_ble_eq_true rfl, Nat.le_of_ble_eq_true rfl⟩ (fun v Y H locs hq hG => ?_)
    obtain ⟨rfl, rfl⟩ := hq
    have q12 := m_in_le r (nI 0) (nI 7)
    refine n_ifne (tgt := 21) hC dX5_register_15 (by decide) (by omega) (fun c15 => ?_) (fun c15 => ?_)
    · obtain ⟨i, hi, rfl⟩ := m_isNode_of (n := n) (by omega) (by omega) c5
      have t_i : tN (nI i) = i := tN_nI (by omega)
      obtain ⟨q, hq1, hq2, rfl⟩ := m_in_of (by decide) (by decide) c15
      have t_q : tN (nI q) = q := tN_nI (by omega)
      refine n_iconst hC 0 dX5_register_21 ?_
      refine lv_istore_n (lv' := [(3, .int (nI 0)), (0, .ref mb), (1, .int (nI i)), (2, .int (nI q))]) hx hb dX5_register_22 rfl hl (by decide) rfl (fun ls hl => ?_)
      exact loop1 9 i q 0 (M 25) _ _ _ (by omega) hi (by omega) (by omega) (fun x hx => absurd hx (Nat.not_lt_zero _)) (by simp only [m_register, if_neg c5, if_neg c15, t_i, t_q, ↓reduceIte]) (by rw [m25_self]; exact hG) (lv_sub hl [1, 2, 3, 0] rfl)
    · refine lv_ldc (v := (-2147483648)) hx hb hC.1.2.2.2.1 (hts (.constant RX5 177 (-2147483648)) (by decide +kernel)) dX5_register_18 ?_
      exact q_iret (v := (-2147483648)) hC hG hr hlk (⟨by simp only [m_register, if_neg c5, if_pos c15, ↓reduceIte], M 25, by rw [m25_self]⟩) dX5_register_20

/-- h becomes 31 h + f 0, .. -/
def hs (f : Nat → Int32) : Nat → Int64 → Int64
  | 0, h => h
  | k + 1, h => 31 * hs f k h + (f k).toInt64
def m_dgn (n : Nat) (M : MM) (i : Nat) (h : Int64) : Int64 := hs (fun r => m_register n M (nI i) (nI r)) 8 (hs (fun k => nI (M 2 (96 * i + k))) (6 * M 3 i) (hs (fun w => m_node n M (nI i) (nI w)) 9 h))
def m_dg1 (n : Nat) (M : MM) : Nat → Int64
  | 0 => 17
  | i + 1 => m_dgn n M i (m_dg1 n M i)
def m_dg2 (n : Nat) (M : MM) : Nat → Int64
  | 0 => m_dg1 n M n
  | l + 1 => hs (fun w => m_letter M (nI l) (nI w)) 8 (m_dg2 n M l)
def m_digest (n : Nat) (M : MM) : Int64 := m_dg2 n M (M 17 0)

abbrev rmX5_digest : Room := { frames := 3, cells := 0, slots := 0, locals := 70 }
set_option maxHeartbeats 4000000 in
set_option maxRecDepth 100000 in
theorem k_X5_digest (l : Launch) (D : va_G) (cA : Nat → ClassId) (A : Nat → Prop) {mb n f : Nat} {X : Mem} {M : MM} (hS : mS mb n f X) (hB : bM M) (hL : mL M) (hE : mE M) : mt l D cA A yX5_digest wsX5_digest rmX5_digest [.ref mb] (sM mb X M) (fun w Y => w = some (.long (m_digest n M)) ∧ ∃ R : Nat → Nat, Y = sM mb X (m25 M R)) := by
  refine q_start (by decide) rfl (Nat.le_of_ble_eq_true rfl) (fun p e s m args below meth c H locs hC hr hlk hnm hG ls hl => ?_)
  have hl : lv_has ls 5 [(0, .ref mb)] := hl
  have hx := hC.1.1
  have hb := hC.1.2.1
  have hts := hC.1.2.2.2.2
  have i5 : ∀ w ∈ wsX50, w ∈ wsX5_digest := by decide +kernel
  have hnf := hS.2.2.2.2
  have hB0 := hB
  have h17 := hB.2
  have k7 := hts (.fieldLink RX5 7 "ViewStampsModel" "logs" "[I") (by decide +kernel)
  have k13 := hts (.fieldLink RX5 13 "ViewStampsModel" "many" "[I") (by decide +kernel)
  have k77 := hts (.fieldLink RX5 77 "ViewStampsModel" "n" "I") (by decide +kernel)
  have k88 := hts (.fieldLink RX5 88 "ViewStampsModel" "letters" "I") (by decide +kernel)
  have loopL : ∀ (d : Nat) (i : Nat) (h : Int64) (R : Nat → Nat) (H : Heap) (locs : List Loc) (ls : Array Slot), M 17 0 - i < d → i ≤ M 17 0 → h = m_dg2 n M i → gw D cA A (sM mb X (m25 M R)) s.heap H locs → lv_has ls 5 [(0, .ref mb), (1, .long h), (3, .int (nI i))] → W p l e rmX5_digest s m args below meth c H locs 0 0 (MQ below (mQ D cA A (fun w Y => w = some (.long (m_digest n M)) ∧ ∃ R : Nat → Nat, Y = sM mb X (m25 M R))) args s rmX5_digest.cells rmX5_digest.slots A) (F0 m 127 ls []) := by
    intro d
    induction d with
    | zero => intro i h R H locs ls hd; exact absurd hd (Nat.not_lt_zero _)
    | succ d ih =>
      intro i h R H locs ls hd hi hh hG hl
      have hB := bM_25 hB0 R
      refine lv_iload_n hx hb dX5_digest_127 rfl (lv_at hl 2 rfl) ?_
      refine lv_aload_n hx hb dX5_digest_128 rfl (lv_at hl 0 rfl) ?_
      refine q_mi (w := M 17 0) hC hG hS i5 17 (by decide) (m25_ne _ _ _ (by decide)) k88 dX5_digest_129 ?_
      refine n_ge (tgt := 172) hC dX5_digest_132 (by decide) (by omega) (by omega) (fun c132 => ?_) (fun c132 => ?_)
      · have c132n := Nat.not_lt.mpr c132
        refine lv_lload_n hx hb dX5_digest_172 rfl (lv_at hl 1 rfl) ?_
        exact q_lret (v := h) hC hG hr hlk (⟨by rw [hh, show i = M 17 0 by omega]; rfl, R, rfl⟩) dX5_digest_173
      · have c132n := Nat.not_le.mpr c132
        refine n_iconst hC 0 dX5_digest_135 ?_
        refine lv_istore (lv' := [(4, .int (nI 0)), (0, .ref mb), (1, .long h), (3, .int (nI i))]) hx hb dX5_digest_136 hl (by decide) rfl (fun ls hl => ?_)
        have hil : i < M 17 0 := by omega
        have loopM : ∀ (d : Nat) (k : Nat) (h : Int64) (H : Heap) (locs : List Loc) (ls : Array Slot), 8 - k < d → k ≤ 8 → h = hs (fun w => m_letter M (nI i) (nI w)) k (m_dg2 n M i) → gw D cA A (sM mb X (m25 M R)) s.heap H locs → lv_has ls 5 [(0, .ref mb), (1, .long h), (3, .int (nI i)), (4, .int (nI k))] → W p l e rmX5_digest s m args below meth c H locs 0 0 (MQ below (mQ D cA A (fun w Y => w = some (.long (m_digest n M)) ∧ ∃ R : Nat → Nat, Y = sM mb X (m25 M R))) args s rmX5_digest.cells rmX5_digest.slots A) (F0 m 138 ls []) := by
          intro d
          induction d with
          | zero => intro k h H locs ls hd; exact absurd hd (Nat.not_lt_zero _)
          | succ d ih2 =>
            intro k h H locs ls hd hk hh2 hG hl
            refine lv_iload hx hb dX5_digest_138 (lv_at hl 3 rfl) ?_
            refine n_bipush hC 8 (by decide) dX5_digest_140 ?_
            refine n_ge (tgt := 166) hC dX5_digest_142 (by decide) (by omega) (by omega) (fun c142 => ?_) (fun c142 => ?_)
            · have c142n := Nat.not_lt.mpr c142
              refine n_iinc (n := 1) (k := 2) (lv' := [(3, .int (nI (i + 1))), (0, .ref mb), (1, .long h), (4, .int (nI k))]) hC dX5_digest_166 hl rfl (by decide) rfl (fun ls hl => ?_)
              refine lv_goto (tgt := 127) hx hb dX5_digest_169 (by decide) ?_
              exact ih (i + 1) _ R _ _ _ (by omega) (by omega) (by rw [m_dg2, ← show k = 8 by omega]; exact hh2) hG (lv_sub hl [1, 2, 0] rfl)
            · have c142n := Nat.not_le.mpr c142
              refine lv_ldc2 (v := 31) hx hb hC.1.2.2.2.1 (hts (.constantLong RX5 180 (31)) (by decide +kernel)) dX5_digest_145 ?_
              refine lv_lload_n hx hb dX5_digest_148 rfl (lv_at hl 1 rfl) ?_
              refine lv_lmul hx hb dX5_digest_149 ?_
              refine lv_aload_n hx hb dX5_digest_150 rfl (lv_at hl 0 rfl) ?_
              refine lv_iload_n hx hb dX5_digest_151 rfl (lv_at hl 2 rfl) ?_
              refine lv_iload hx hb dX5_digest_152 (lv_at hl 3 rfl) ?_
              refine q_callV (rest := [.long (31 * h)]) (k_X5_letter l D cA A hS hB (nI i) (nI k)) hC hG cF5 hS.1 2 gX5_digest_X5_letter rfl (by decide +kernel) ⟨by decide, by decide⟩ rfl hl.1 rfl (by simp [Value.category]) dX5_digest_154 ⟨Nat.le_of_ble_eq_true rfl, Nat.le_of_ble_eq_true rfl⟩ (fun v Y H locs hq hG => ?_)
              obtain ⟨rfl, rfl⟩ := hq
              rw [m_letter_25]
              refine lv_i2l hx hb dX5_digest_157 rfl ?_
              refine lv_ladd hx hb dX5_digest_158 ?_
              refine lv_lstore_n (lv' := [(1, .long ((31 * h) + ((m_letter M (nI i) (nI k)).toInt64))), (0, .ref mb), (3, .int (nI i)), (4, .int (nI k))]) hx hb dX5_digest_159 rfl hl (by decide) rfl (fun ls hl => ?_)
              refine n_iinc (n := 1) (k := 3) (lv' := [(4, .int (nI (k + 1))), (1, .long ((31 * h) + ((m_letter M (nI i) (nI k)).toInt64))), (0, .ref mb), (3, .int (nI i))]) hC dX5_digest_160 hl rfl (by decide) rfl (fun ls hl => ?_)
              refine lv_goto (tgt := 138) hx hb dX5_digest_163 (by decide) ?_
              exact ih2 (k + 1) _ _ _ _ (by omega) (by omega) (by rw [hs, hh2]) hG (lv_sub hl [2, 1, 3, 0] rfl)
        exact loopM 9 0 h _ _ _ (by omega) (by omega) (by rw [hs]; exact hh) hG (lv_sub hl [1, 2, 3, 0] rfl)
  have loopN : ∀ (d : Nat) (i : Nat) (h : Int64) (R : Nat → Nat) (H : Heap) (locs : List Loc) (ls : Array Slot), n - i < d → i ≤ n → h = m_dg1 n M i → gw D cA A (sM mb X (m25 M R)) s.heap H locs → lv_has ls 5 [(0, .ref mb), (1, .long h), (3, .int (nI i))] → W p l e rmX5_digest s m args below meth c H locs 0 0 (MQ below (mQ D cA A (fun w Y => w = some (.long (m_digest n M)) ∧ ∃ R : Nat → Nat, Y = sM mb X (m25 M R))) args s rmX5_digest.cells rmX5_digest.slots A) (F0 m 6 ls []) := by
    intro d
    induction d with
    | zero => intro i h R H locs ls hd; exact absurd hd (Nat.not_lt_zero _)
    | succ d ih =>
      intro i h R H locs ls hd hi hh hG hl
      have hB := bM_25 hB0 R
      refine lv_iload_n hx hb dX5_digest_6 rfl (lv_at hl 2 rfl) ?_
      refine lv_aload_n hx hb dX5_digest_7 rfl (lv_at hl 0 rfl) ?_
      refine q_mn hC hG hS i5 k77 dX5_digest_8 ?_
      refine n_ge (tgt := 125) hC dX5_digest_11 (by decide) (by omega) (by omega) (fun c11 => ?_) (fun c11 => ?_)
      · have c11n := Nat.not_lt.mpr c11
        refine n_iconst hC 0 dX5_digest_125 ?_
        refine lv_istore_n (lv' := [(3, .int (nI 0)), (0, .ref mb), (1, .long h)]) hx hb dX5_digest_126 rfl hl (by decide) rfl (fun ls hl => ?_)
        exact loopL (M 17 0 + 1) 0 _ R _ _ _ (by omega) (by omega) (by rw [hh, m_dg2, show i = n by omega]) hG (lv_sub hl [1, 2, 0] rfl)
      · have c11n := Nat.not_le.mpr c11
        refine n_iconst hC 0 dX5_digest_14 ?_
        refine lv_istore (lv' := [(4, .int (nI 0)), (0, .ref mb), (1, .long h), (3, .int (nI i))]) hx hb dX5_digest_15 hl (by decide) rfl (fun ls hl => ?_)
        have hin : i < n := by omega
        have hL0 := hL i (by omega)
        have loopR : ∀ (d : Nat) (k : Nat) (h : Int64) (R : Nat → Nat) (H : Heap) (locs : List Loc) (ls : Array Slot), 8 - k < d → k ≤ 8 → h = hs (fun r => m_register n M (nI i) (nI r)) k (hs (fun k => nI (M 2 (96 * i + k))) (6 * M 3 i) (hs (fun w => m_node n M (nI i) (nI w)) 9 (m_dg1 n M i))) → gw D cA A (sM mb X (m25 M R)) s.heap H locs → lv_has ls 5 [(0, .ref mb), (1, .long h), (3, .int (nI i)), (4, .int (nI k))] → W p l e rmX5_digest s m args below meth c H locs 0 0 (MQ below (mQ D cA A (fun w Y => w = some (.long (m_digest n M)) ∧ ∃ R : Nat → Nat, Y = sM mb X (m25 M R))) args s rmX5_digest.cells rmX5_digest.slots A) (F0 m 91 ls []) := by
          intro d
          induction d with
          | zero => intro k h R H locs ls hd; exact absurd hd (Nat.not_lt_zero _)
          | succ d ih2 =>
            intro k h R H locs ls hd hk hh2 hG hl
            have hB := bM_25 hB0 R
            refine lv_iload hx hb dX5_digest_91 (lv_at hl 3 rfl) ?_
            refine n_bipush hC 8 (by decide) dX5_digest_93 ?_
            refine n_ge (tgt := 119) hC dX5_digest_95 (by decide) (by omega) (by omega) (fun c95 => ?_) (fun c95 => ?_)
            · have c95n := Nat.not_lt.mpr c95
              refine n_iinc (n := 1) (k := 2) (lv' := [(3, .int (nI (i + 1))), (0, .ref mb), (1, .long h), (4, .int (nI k))]) hC dX5_digest_119 hl rfl (by decide) rfl (fun ls hl => ?_)
              refine lv_goto (tgt := 6) hx hb dX5_digest_122 (by decide) ?_
              exact ih (i + 1) _ R _ _ _ (by omega) (by omega) (by rw [m_dg1, m_dgn, ← show k = 8 by omega]; exact hh2) hG (lv_sub hl [1, 2, 0] rfl)
            · have c95n := Nat.not_le.mpr c95
              refine lv_ldc2 (v := 31) hx hb hC.1.2.2.2.1 (hts (.constantLong RX5 180 (31)) (by decide +kernel)) dX5_digest_98 ?_
              refine lv_lload_n hx hb dX5_digest_101 rfl (lv_at hl 1 rfl) ?_
              refine lv_lmul hx hb dX5_digest_102 ?_
              refine lv_aload_n hx hb dX5_digest_103 rfl (lv_at hl 0 rfl) ?_
              refine lv_iload_n hx hb dX5_digest_104 rfl (lv_at hl 2 rfl) ?_
              refine lv_iload hx hb dX5_digest_105 (lv_at hl 3 rfl) ?_
              refine q_callV (rest := [.long (31 * h)]) (k_X5_register l D cA A hS hB (mL_25 hL R) (mE_25 hE R) (nI i) (nI k)) hC hG cF5 hS.1 2 gX5_digest_X5_register rfl (by decide +kernel) ⟨by decide, by decide⟩ rfl hl.1 rfl (by simp [Value.category]) dX5_digest_107 ⟨Nat.le_of_ble_eq_true rfl, Nat.le_of_ble_eq_true rfl⟩ (fun v Y H locs hq hG => ?_)
              obtain ⟨rfl, R1, rfl⟩ := hq
              rw [m25_25] at hG
              rw [m_register_25]
              refine lv_i2l hx hb dX5_digest_110 rfl ?_
              refine lv_ladd hx hb dX5_digest_111 ?_
              refine lv_lstore_n (lv' := [(1, .long ((31 * h) + ((m_register n M (nI i) (nI k)).toInt64))), (0, .ref mb), (3, .int (nI i)), (4, .int (nI k))]) hx hb dX5_digest_112 rfl hl (by decide) rfl (fun ls hl => ?_)
              refine n_iinc (n := 1) (k := 3) (lv' := [(4, .int (nI (k + 1))), (1, .long ((31 * h) + ((m_register n M (nI i) (nI k)).toInt64))), (0, .ref mb), (3, .int (nI i))]) hC dX5_digest_113 hl rfl (by decide) rfl (fun ls hl => ?_)
              refine lv_goto (tgt := 91) hx hb dX5_digest_116 (by decide) ?_
              exact ih2 (k + 1) _ R1 _ _ _ (by omega) (by omega) (by rw [hs, hh2]) hG (lv_sub hl [2, 1, 3, 0] rfl)
        have loopE : ∀ (d : Nat) (k : Nat) (h : Int64) (H : Heap) (locs : List Loc) (ls : Array Slot), 6 * M 3 i - k < d → k ≤ 6 * M 3 i → h = hs (fun k => nI (M 2 (96 * i + k))) k (hs (fun w => m_node n M (nI i) (nI w)) 9 (m_dg1 n M i)) → gw D cA A (sM mb X (m25 M R)) s.heap H locs → lv_has ls 5 [(0, .ref mb), (1, .long h), (3, .int (nI i)), (4, .int (nI k))] → W p l e rmX5_digest s m args below meth c H locs 0 0 (MQ below (mQ D cA A (fun w Y => w = some (.long (m_digest n M)) ∧ ∃ R : Nat → Nat, Y = sM mb X (m25 M R))) args s rmX5_digest.cells rmX5_digest.slots A) (F0 m 48 ls []) := by
          intro d
          induction d with
          | zero => intro k h H locs ls hd; exact absurd hd (Nat.not_lt_zero _)
          | succ d ih2 =>
            intro k h H locs ls hd hk hh2 hG hl
            refine lv_iload hx hb dX5_digest_48 (lv_at hl 3 rfl) ?_
            refine n_bipush hC 6 (by decide) dX5_digest_50 ?_
            refine lv_aload_n hx hb dX5_digest_52 rfl (lv_at hl 0 rfl) ?_
            refine q_mg hC hG hS i5 3 rfl k13 dX5_digest_53 ?_
            refine lv_iload_n hx hb dX5_digest_56 rfl (lv_at hl 2 rfl) ?_
            refine q_ml (N := 295) (w := M 3 i) hC hG hS 3 rfl rfl rfl (by omega) (m25_ne _ _ _ (by decide)) dX5_digest_57 ?_
            have b1 : M 3 i < 2147483648 := hB0.1 3 i rfl
            refine n_imul hC dX5_digest_58 ?_
            refine n_ge (tgt := 88) hC dX5_digest_59 (by decide) (by omega) (by omega) (fun c59 => ?_) (fun c59 => ?_)
            · have c59n := Nat.not_lt.mpr c59
              refine n_iconst hC 0 dX5_digest_88 ?_
              refine lv_istore (lv' := [(4, .int (nI 0)), (0, .ref mb), (1, .long h), (3, .int (nI i))]) hx hb dX5_digest_89 hl (by decide) rfl (fun ls hl => ?_)
              exact loopR 9 0 _ R _ _ _ (by omega) (by omega) (by rw [hs, ← show k = 6 * M 3 i by omega]; exact hh2) hG (lv_sub hl [1, 2, 3, 0] rfl)
            · have c59n := Nat.not_le.mpr c59
              refine lv_ldc2 (v := 31) hx hb hC.1.2.2.2.1 (hts (.constantLong RX5 180 (31)) (by decide +kernel)) dX5_digest_62 ?_
              refine lv_lload_n hx hb dX5_digest_65 rfl (lv_at hl 1 rfl) ?_
              refine lv_lmul hx hb dX5_digest_66 ?_
              refine lv_aload_n hx hb dX5_digest_67 rfl (lv_at hl 0 rfl) ?_
              refine q_mg hC hG hS i5 2 rfl k7 dX5_digest_68 ?_
              refine n_bipush hC 96 (by decide) dX5_digest_71 ?_
              refine lv_iload_n hx hb dX5_digest_73 rfl (lv_at hl 2 rfl) ?_
              refine n_imul hC dX5_digest_74 ?_
              refine lv_iload hx hb dX5_digest_75 (lv_at hl 3 rfl) ?_
              refine n_iadd hC dX5_digest_77 ?_
              refine q_ml (N := 28320) (w := M 2 ((96 * i) + k)) hC hG hS 2 rfl rfl rfl (by omega) (m25_ne _ _ _ (by decide)) dX5_digest_78 ?_
              refine lv_i2l hx hb dX5_digest_79 rfl ?_
              refine lv_ladd hx hb dX5_digest_80 ?_
              refine lv_lstore_n (lv' := [(1, .long ((31 * h) + ((nI (M 2 ((96 * i) + k))).toInt64))), (0, .ref mb), (3, .int (nI i)), (4, .int (nI k))]) hx hb dX5_digest_81 rfl hl (by decide) rfl (fun ls hl => ?_)
              refine n_iinc (n := 1) (k := 3) (lv' := [(4, .int (nI (k + 1))), (1, .long ((31 * h) + ((nI (M 2 ((96 * i) + k))).toInt64))), (0, .ref mb), (3, .int (nI i))]) hC dX5_digest_82 hl rfl (by decide) rfl (fun ls hl => ?_)
              refine lv_goto (tgt := 48) hx hb dX5_digest_85 (by decide) ?_
              exact ih2 (k + 1) _ _ _ _ (by omega) (by omega) (by rw [hs, hh2]) hG (lv_sub hl [2, 1, 3, 0] rfl)
        have loopW : ∀ (d : Nat) (k : Nat) (h : Int64) (H : Heap) (locs : List Loc) (ls : Array Slot), 9 - k < d → k ≤ 9 → h = hs (fun w => m_node n M (nI i) (nI w)) k (m_dg1 n M i) → gw D cA A (sM mb X (m25 M R)) s.heap H locs → lv_has ls 5 [(0, .ref mb), (1, .long h), (3, .int (nI i)), (4, .int (nI k))] → W p l e rmX5_digest s m args below meth c H locs 0 0 (MQ below (mQ D cA A (fun w Y => w = some (.long (m_digest n M)) ∧ ∃ R : Nat → Nat, Y = sM mb X (m25 M R))) args s rmX5_digest.cells rmX5_digest.slots A) (F0 m 17 ls []) := by
          intro d
          induction d with
          | zero => intro k h H locs ls hd; exact absurd hd (Nat.not_lt_zero _)
          | succ d ih2 =>
            intro k h H locs ls hd hk hh2 hG hl
            refine lv_iload hx hb dX5_digest_17 (lv_at hl 3 rfl) ?_
            refine n_bipush hC 9 (by decide) dX5_digest_19 ?_
            refine n_ge (tgt := 45) hC dX5_digest_21 (by decide) (by omega) (by omega) (fun c21 => ?_) (fun c21 => ?_)
            · have c21n := Nat.not_lt.mpr c21
              refine n_iconst hC 0 dX5_digest_45 ?_
              refine lv_istore (lv' := [(4, .int (nI 0)), (0, .ref mb), (1, .long h), (3, .int (nI i))]) hx hb dX5_digest_46 hl (by decide) rfl (fun ls hl => ?_)
              exact loopE (6 * M 3 i + 1) 0 _ _ _ _ (by omega) (by omega) (by rw [hs, ← show k = 9 by omega]; exact hh2) hG (lv_sub hl [1, 2, 3, 0] rfl)
            · have c21n := Nat.not_le.mpr c21
              refine lv_ldc2 (v := 31) hx hb hC.1.2.2.2.1 (hts (.constantLong RX5 180 (31)) (by decide +kernel)) dX5_digest_24 ?_
              refine lv_lload_n hx hb dX5_digest_27 rfl (lv_at hl 1 rfl) ?_
              refine lv_lmul hx hb dX5_digest_28 ?_
              refine lv_aload_n hx hb dX5_digest_29 rfl (lv_at hl 0 rfl) ?_
              refine lv_iload_n hx hb dX5_digest_30 rfl (lv_at hl 2 rfl) ?_
              refine lv_iload hx hb dX5_digest_31 (lv_at hl 3 rfl) ?_
              refine q_callV (rest := [.long (31 * h)]) (k_X5_node l D cA A hS hB (nI i) (nI k)) hC hG cF5 hS.1 2 gX5_digest_X5_node rfl (by decide +kernel) ⟨by decide, by decide⟩ rfl hl.1 rfl (by simp [Value.category]) dX5_digest_33 ⟨Nat.le_of_ble_eq_true rfl, Nat.le_of_ble_eq_true rfl⟩ (fun v Y H locs hq hG => ?_)
              obtain ⟨rfl, rfl⟩ := hq
              rw [m_node_25]
              refine lv_i2l hx hb dX5_digest_36 rfl ?_
              refine lv_ladd hx hb dX5_digest_37 ?_
              refine lv_lstore_n (lv' := [(1, .long ((31 * h) + ((m_node n M (nI i) (nI k)).toInt64))), (0, .ref mb), (3, .int (nI i)), (4, .int (nI k))]) hx hb dX5_digest_38 rfl hl (by decide) rfl (fun ls hl => ?_)
              refine n_iinc (n := 1) (k := 3) (lv' := [(4, .int (nI (k + 1))), (1, .long ((31 * h) + ((m_node n M (nI i) (nI k)).toInt64))), (0, .ref mb), (3, .int (nI i))]) hC dX5_digest_39 hl rfl (by decide) rfl (fun ls hl => ?_)
              refine lv_goto (tgt := 17) hx hb dX5_digest_42 (by decide) ?_
              exact ih2 (k + 1) _ _ _ _ (by omega) (by omega) (by rw [hs, hh2]) hG (lv_sub hl [2, 1, 3, 0] rfl)
        exact loopW 10 0 h _ _ _ (by omega) (by omega) (by rw [hs]; exact hh) hG (lv_sub hl [1, 2, 3, 0] rfl)
  refine lv_ldc2 (v := 17) hx hb hC.1.2.2.2.1 (hts (.constantLong RX5 178 (17)) (by decide +kernel)) dX5_digest_0 ?_
  refine lv_lstore_n (lv' := [(1, .long 17), (0, .ref mb)]) hx hb dX5_digest_3 rfl hl (by decide) rfl (fun ls hl => ?_)
  refine n_iconst hC 0 dX5_digest_4 ?_
  refine lv_istore_n (lv' := [(3, .int (nI 0)), (1, .long 17), (0, .ref mb)]) hx hb dX5_digest_5 rfl hl (by decide) rfl (fun ls hl => ?_)
  exact loopN (n + 1) 0 _ (M 25) _ _ _ (by omega) (by omega) rfl (by rw [m25_self]; exact hG) (lv_sub hl [2, 1, 0] rfl)
