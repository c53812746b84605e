/-! the JDK's small ones: fill, bitCount, copyOf; rows of letters counted -/
/-- the first j places of array a become v -/
def fl (Z : Mem) (a v j : Nat) : Mem := (nx Z, kd Z, ln Z, fun c k => if c = a ∧ k < j then v else iv Z c k, rv Z)
theorem fl_0 (Z : Mem) (a v : Nat) : fl Z a v 0 = Z := by
  refine Prod.ext rfl (Prod.ext rfl (Prod.ext rfl (Prod.ext ?_ rfl)))
  funext c k
  exact if_neg (by omega)
theorem fl_s (Z : Mem) (a v j : Nat) : wI (fl Z a v j) a j v = fl Z a v (j + 1) := by
  refine Prod.ext rfl (Prod.ext rfl (Prod.ext rfl (Prod.ext ?_ rfl)))
  funext c k
  show (if c = a ∧ k = j then v else if c = a ∧ k < j then v else iv Z c k) = (if c = a ∧ k < j + 1 then v else iv Z c k)
  by_cases h1 : c = a ∧ k = j
  · rw [if_pos h1, if_pos (by omega)]
  · rw [if_neg h1]
    by_cases h2 : c = a ∧ k < j
    · rw [if_pos h2, if_pos (by omega)]
    · rw [if_neg h2, if_neg (by omega)]
/-- an array of q ints, its first n those of array a -/
def cpm (Z : Mem) (a n q : Nat) : Mem := (nx Z + 1, va_up (kd Z) (nx Z) 7, va_up (ln Z) (nx Z) q, va_up (iv Z) (nx Z) (fun k => if k < n then iv Z a k else 0), va_up (rv Z) (nx Z) (fun _ => none))
/-- places of a row of references that hold something -/
def c_cl (r : Nat → Option Nat) : Nat → Nat
  | 0 => 0
  | j + 1 => c_cl r j + (if r j = none then 0 else 1)
theorem c_cl_le (r : Nat → Option Nat) : ∀ j, c_cl r j ≤ j := by
  intro j
  induction j with
  | zero => exact Nat.le_refl _
  | succ j ih => simp only [c_cl]; split <;> omega
theorem c_cl_cnt {r : Nat → Option Nat} {M : MM} {x base : Nat} : ∀ j, (∀ k, k < j → (r k = none ↔ M x (base + k) = 0)) → c_cl r j = m_cnt M x base j := by
  intro j
  induction j with
  | zero => intro _; rfl
  | succ j ih =>
    intro h
    simp only [c_cl, m_cnt, ih (fun k hk => h k (by omega)), h j (by omega)]
theorem c_votes {b n f i : Nat} {X : Mem} {M : MM} (hs : Sd b n f X M) (hi : i < n) : c_cl (rv X (na b i + 2)) n = m_cnt M 12 (5 * i) n := by
  refine c_cl_cnt n (fun k hk => ?_)
  obtain ⟨h1, h2⟩ := hs.2.2.2.2.1 i k hi hk
  refine ⟨fun e => Classical.byContradiction fun z => ?_, h1⟩
  obtain ⟨q, lg, e1, -⟩ := h2 z
  rw [e] at e1; cases e1
theorem c_tales {b n f i : Nat} {X : Mem} {M : MM} (hs : Sd b n f X M) (hi : i < n) : c_cl (rv X (na b i + 3)) n = m_cnt M 14 (5 * i) n := by
  refine c_cl_cnt n (fun k hk => ?_)
  obtain ⟨h1, h2⟩ := hs.2.2.2.2.2.1 i k hi hk
  refine ⟨fun e => Classical.byContradiction fun z => ?_, h1⟩
  obtain ⟨q, lg, e1, -⟩ := h2 z
  rw [e] at e1; cases e1
/-- Integer.bitCount's steps -/
def usr (x : Int32) (y : Int32) : Int32 := (x.toUInt32 >>> (y.toUInt32 &&& Int32.toUInt32 31)).toInt32
def bc1 (x : Int32) : Int32 := x - (usr x (nI 1) &&& 1431655765)
def bc2 (x : Int32) : Int32 := (x &&& 858993459) + (usr x (nI 2) &&& 858993459)
def bc3 (x : Int32) : Int32 := (x + usr x (nI 4)) &&& 252645135
def bc4 (x : Int32) : Int32 := x + usr x (nI 8)
def bc5 (x : Int32) : Int32 := x + usr x (nI 16)
def bcI (x : Int32) : Int32 := bc5 (bc4 (bc3 (bc2 (bc1 x)))) &&& nI 63
/-- a mask of five bits -/
def v1 (b : Bool) (w : Nat) : Nat := if b = true then w else 0
def v5 (b0 b1 b2 b3 b4 : Bool) : Nat := 0 + v1 b0 1 + v1 b1 2 + v1 b2 4 + v1 b3 8 + v1 b4 16
def n5 (b0 b1 b2 b3 b4 : Bool) : Nat := 0 + v1 b0 1 + v1 b1 1 + v1 b2 1 + v1 b3 1 + v1 b4 1
theorem v5_n : ∀ b0 b1 b2 b3 b4 : Bool, bcI (nI (v5 b0 b1 b2 b3 b4)) = nI (n5 b0 b1 b2 b3 b4) := by decide +kernel
def gb (b0 b1 b2 b3 b4 : Bool) (s : Nat) : Bool := if s = 0 then b0 else if s = 1 then b1 else if s = 2 then b2 else if s = 3 then b3 else b4
theorem v5_and : ∀ b0 b1 b2 b3 b4 : Bool, ∀ s, s < 5 → ((nI (v5 b0 b1 b2 b3 b4) &&& (nI 1 <<< (nI s &&& 31))) = 0 ↔ gb b0 b1 b2 b3 b4 s = false) := by decide +kernel
theorem v5_or : ∀ b0 b1 b2 b3 b4 : Bool, ∀ s, s < 5 → (nI (v5 b0 b1 b2 b3 b4) ||| (nI 1 <<< (nI s &&& 31))) = nI (v5 (b0 || s == 0) (b1 || s == 1) (b2 || s == 2) (b3 || s == 3) (b4 || s == 4)) := by decide +kernel
def tb (M : MM) (base j : Nat) : Bool := !(M 11 (base + j) == 0)
theorem tb_v (M : MM) (base j w : Nat) : (if M 11 (base + j) = 0 then 0 else w) = v1 (tb M base j) w := by
  unfold tb v1
  by_cases h : M 11 (base + j) = 0
  · rw [if_pos h, h]; rfl
  · rw [if_neg h, show (M 11 (base + j) == 0) = false from beq_eq_false_iff_ne.mpr h]; rfl
theorem vm_5 (M : MM) (base : Nat) : vm M base 5 = v5 (tb M base 0) (tb M base 1) (tb M base 2) (tb M base 3) (tb M base 4) := by
  simp only [vm, tb_v, v5]
theorem vm_3 (M : MM) (base : Nat) : vm M base 3 = v5 (tb M base 0) (tb M base 1) (tb M base 2) false false := by
  simp only [vm, tb_v, v5]; rfl
theorem cnt_5 (M : MM) (base : Nat) : m_cnt M 11 base 5 = n5 (tb M base 0) (tb M base 1) (tb M base 2) (tb M base 3) (tb M base 4) := by
  simp only [m_cnt, tb_v, n5]
theorem cnt_3 (M : MM) (base : Nat) : m_cnt M 11 base 3 = n5 (tb M base 0) (tb M base 1) (tb M base 2) false false := by
  simp only [m_cnt, tb_v, n5]; rfl
theorem vm_bc {n f : Nat} (M : MM) (base : Nat) (hnf : (n = 3 ∧ f = 1) ∨ (n = 5 ∧ f = 2)) : bcI (nI (vm M base n)) = nI (m_cnt M 11 base n) := by
  rcases hnf with ⟨rfl, -⟩ | ⟨rfl, -⟩
  · rw [vm_3, cnt_3, v5_n]
  · rw [vm_5, cnt_5, v5_n]
theorem tb_f {M : MM} {base j : Nat} : tb M base j = false ↔ M 11 (base + j) = 0 := by
  unfold tb
  by_cases h : M 11 (base + j) = 0
  · simp [h]
  · simp [h]
theorem vm_and {n f : Nat} (M : MM) (base : Nat) {s : Nat} (hs : s < n) (hnf : (n = 3 ∧ f = 1) ∨ (n = 5 ∧ f = 2)) : (nI (vm M base n) &&& (nI 1 <<< (nI s &&& 31))) = 0 ↔ M 11 (base + s) = 0 := by
  rcases hnf with ⟨rfl, -⟩ | ⟨rfl, -⟩
  · rw [vm_3, v5_and _ _ _ _ _ s (by omega)]
    rcases (show s = 0 ∨ s = 1 ∨ s = 2 by omega) with rfl | rfl | rfl <;> exact tb_f
  · rw [vm_5, v5_and _ _ _ _ _ s (by omega)]
    rcases (show s = 0 ∨ s = 1 ∨ s = 2 ∨ s = 3 ∨ s = 4 by omega) with rfl | rfl | rfl | rfl | rfl <;> exact tb_f
theorem tb_up (M : MM) (base s j : Nat) : tb (up2 M 11 (base + s) 1) base j = (tb M base j || s == j) := by
  unfold tb
  by_cases h : s = j
  · subst h
    rw [up2_self]; simp
  · rw [up2_ne _ _ (by omega), show (s == j) = false from beq_eq_false_iff_ne.mpr h, Bool.or_false]
theorem vm_or {n f : Nat} (M : MM) (base : Nat) {s : Nat} (hs : s < n) (hnf : (n = 3 ∧ f = 1) ∨ (n = 5 ∧ f = 2)) : (nI (vm M base n) ||| (nI 1 <<< (nI s &&& 31))) = nI (vm (up2 M 11 (base + s) 1) base n) := by
  rcases hnf with ⟨rfl, -⟩ | ⟨rfl, -⟩
  · rw [vm_3, vm_3, v5_or _ _ _ _ _ s (by omega)]
    simp only [tb_up]
    rcases (show s = 0 ∨ s = 1 ∨ s = 2 by omega) with rfl | rfl | rfl <;> rfl
  · rw [vm_5, vm_5, v5_or _ _ _ _ _ s (by omega)]
    simp only [tb_up]
section ACPY
variable {p : Program} {l : Launch} {e : Env} {R : Room} {s : State} {m : MethodId} {args : Array Value} {below : List Frame} {meth : Method} {c : Code} {H : Heap} {locs : List Loc} {cells slots : Nat} {Q : State → Prop}
variable {cc : ByteArray} {pc nL : Nat} {ls : Array Slot} {rest : List Value} {D : va_G} {cA : Nat → ClassId} {A : Nat → Prop} {a : Nat} {X : Mem} {Ts : List Cond} {own : String}
theorem q_acpy (hC : cx p s m args c cc nL Ts own D cA) (hG : gw D cA A X s.heap H locs) (hsz : ls.size = nL) {index a0 n0 n1 k : Nat} (hk0 : kd X a0 = 7) (hk1 : kd X a = 7) (hne : a0 ≠ a) (hl0 : ln X a0 = n0) (hl1 : ln X a = n1) (h0 : k ≤ n0) (h1 : k ≤ n1) (hkk : k < 2 ^ 31) (hlink : (Cond.methodLink own index arraycopyName).before args s = true) (hnat : (Cond.native arraycopyName).before args s = true) (hstat : (Cond.static arraycopyName).before args s = true) (hini : (Cond.initialized "java/lang/System").before args s = true) (hframes : 1 ≤ R.frames) (hlocals : (rest.map fun v => v.category).sum + (nativeFrameWords "java/lang/System" "arraycopy" 5 + 11) ≤ R.locals) (hdg : decode cc pc = .ok (.invokestatic index, 3))
    (kk : ∀ (H1 : Heap) (locs1 : List Loc), gw D cA A (nx X, kd X, ln X, va_up (iv X) a (fun j => if j < k then iv X a0 j else iv X a j), rv X) s.heap H1 locs1 → W p l e R s m args below meth c H1 locs1 cells slots Q (F0 m (pc + 3) ls rest)) : W p l e R s m args below meth c H locs cells slots Q (F0 m pc ls (.int (nI k) :: .int (nI 0) :: .ref a :: .int (nI 0) :: .ref a0 :: rest)) := by
  have hA1 : A a := hG.1.2.2.1 a (by rw [hk1]; decide)
  have hl : a < H.size := (hG.1.2.1 a).2.2.2.2.2 (by rw [hk1]; decide)
  have hc0 : H[a0]? = some (arrV (cA 0) n0 (fun j => .int (nI (iv X a0 j)))) := by rw [← hl0]; exact (hG.1.2.1 a0).2.1 hk0
  have hc1 : H[a]? = some (arrV (cA 0) n1 (fun j => .int (nI (iv X a j)))) := by rw [← hl1]; exact (hG.1.2.1 a).2.1 hk1
  have hcl : (nI k).toNatClampNeg = k := nI_clamp hkk
  have hcz : (nI 0).toNatClampNeg = 0 := nI_clamp (by decide)
  have hK := hC.2
  intro T hT Y
  obtain ⟨-, k0, hk0', cm0, hkk0⟩ := (hK.2 0 _ rfl).1 n0 (fun j => .int (nI (iv X a0 j)))
  obtain ⟨-, k1, hk1', cm1, hkk1⟩ := (hK.2 0 _ rfl).1 n1 (fun j => .int (nI (iv X a j)))
  obtain ⟨vm', Y', step⟩ := Y.arraycopy hC.1.1 hC.1.2.2.2.1 hlink hnat hstat hini (src := a0) (dst := a) (cs := arrV (cA 0) n0 (fun j => .int (nI (iv X a0 j)))) (cd := arrV (cA 0) n1 (fun j => .int (nI (iv X a j)))) (srcPos := nI 0) (destPos := nI 0) (n := nI k) (by rw [hT]; exact hc0) (by rw [hT]; exact hc1)
    (fun _ h => by cases h) (fun _ h => by cases h) (fun h => by cases h) (fun h => by cases h) hk0' hk1' hkk0 hkk1 (by simp [refKind]) (nI_pos (by decide)) (nI_pos (by decide)) (nI_pos hkk)
    (by rw [nI_toInt (by decide), nI_toInt hkk, arrV_size]; omega)
    (by rw [nI_toInt (by decide), nI_toInt hkk, arrV_size]; omega)
    (fun vm₁ _ i hi => by
      rw [hcl] at hi
      have e : (arrV (cA 0) n0 (fun j => .int (nI (iv X a0 j)))).slots.getD ((nI 0).toNatClampNeg + i) .null = .int (nI (iv X a0 ((nI 0).toNatClampNeg + i))) := by
        rw [Array.getD_eq_getD_getElem?, arrV_read _ _ (by omega)]
        rfl
      refine ⟨?_, ?_⟩
      · rw [e]; rfl
      · rw [e]; exact trivial)
    (g := F0 m pc ls (.int (nI k) :: .int (nI 0) :: .ref a :: .int (nI 0) :: .ref a0 :: rest)) rfl (by rw [hC.1.2.2.1, ← hsz]) (rest := rest) rfl (by rw [hC.1.2.1]; exact hdg) hframes (by show 2 * 0 + _ + _ ≤ _; omega)
  have e1 : copied (arrV (cA 0) n0 (fun j => .int (nI (iv X a0 j)))) (arrV (cA 0) n1 (fun j => .int (nI (iv X a j)))) (nI 0) (nI 0) (nI k) = arrV (cA 0) n1 (fun j => .int (va_cpy (fun j => nI (iv X a0 j)) (fun j => nI (iv X a j)) (nI 0).toNatClampNeg (nI 0).toNatClampNeg (nI k).toNatClampNeg j)) := va_copied (fun z => .int z) (cA 0) (cA 0) (fun j => nI (iv X a0 j)) (fun j => nI (iv X a j)) (by rw [hcl, hcz]; omega)
  rw [hcl, hcz] at e1
  have e2 : (fun j => Value.int (va_cpy (fun j => nI (iv X a0 j)) (fun j => nI (iv X a j)) 0 0 k j)) = (fun j => .int (nI ((fun j => if j < k then iv X a0 j else iv X a j) j))) := by
    funext j
    simp only [va_cpy, Nat.zero_le, true_and, Nat.zero_add, Nat.sub_zero]
    by_cases hj : j < k
    · rw [if_pos hj, if_pos hj]
    · rw [if_neg hj, if_neg hj]
  rw [e2] at e1
  rw [e1] at Y' step
  have hheap : ((T.setVm vm').setCell a (arrV (cA 0) n1 (fun j => .int (nI ((fun j => if j < k then iv X a0 j else iv X a j) j))))).heap = H.setIfInBounds a (arrV (cA 0) n1 (fun j => .int (nI ((fun j => if j < k then iv X a0 j else iv X a j) j)))) := by rw [← hT]; rfl
  have oq : ∀ q : Nat, q ≠ a → (H.setIfInBounds a (arrV (cA 0) n1 (fun j => .int (nI ((fun j => if j < k then iv X a0 j else iv X a j) j)))))[q]? = H[q]? := fun q hq => by simp [Array.getElem?_setIfInBounds, Ne.symm hq]
  have hz : (H.setIfInBounds a (arrV (cA 0) n1 (fun j => .int (nI ((fun j => if j < k then iv X a0 j else iv X a j) j))))).size = H.size := by simp
  have ha : (H.setIfInBounds a (arrV (cA 0) n1 (fun j => .int (nI ((fun j => if j < k then iv X a0 j else iv X a j) j)))))[a]? = some (arrV (cA 0) n1 (fun j => .int (nI ((fun j => if j < k then iv X a0 j else iv X a j) j)))) := by simp [Array.getElem?_setIfInBounds, hl]
  have hS := hG.2
  obtain ⟨t, a1, b1⟩ := kk _ _ ⟨wd_set (a := a) hG.1 rfl rfl rfl (fun b hb => va_up_ne _ _ hb) (fun _ _ => rfl) hz oq (ce_arr (k := 7) hk1 (by decide) (by rw [hz]; exact hl) (fun _ => by
      rw [ha]
      show _ = some (arrV (cA 0) (ln X a) (fun j => .int (nI (va_up (iv X) a (fun j => if j < k then iv X a0 j else iv X a j) a j))))
      rw [va_up_self, hl1]) (fun h => by cases h) (fun h => by cases h) (fun h => by cases h)), by rw [hz]; exact hS.1, fun q g1 g2 => by
      rw [oq q (fun e => g2 (by rw [e]; exact hA1))]
      exact hS.2.1 q g1 g2, fun q hq => by
      rcases List.mem_append.mp hq with h | h
      · exact hS.2.2 q h
      · obtain ⟨z, -, hz⟩ := List.mem_map.mp h
        rw [← hz]
        exact hA1⟩ _ hheap Y'
  exact ⟨t, step t a1, b1⟩
end ACPY
