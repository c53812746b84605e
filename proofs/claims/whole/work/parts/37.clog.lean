theorem up2_up2 {α : Type} (f : Nat → Nat → α) (a k : Nat) (v w : α) : up2 (up2 f a k v) a k w = up2 f a k w := by
  funext x y
  unfold up2
  by_cases h : x = a ∧ y = k
  · rw [if_pos h, if_pos h]
  · rw [if_neg h, if_neg h, if_neg h]
theorem up2_id {α : Type} {f : Nat → Nat → α} {a k : Nat} {v : α} (h : f a k = v) : up2 f a k v = f := by
  funext x y
  unfold up2
  by_cases hc : x = a ∧ y = k
  · rw [if_pos hc, hc.1, hc.2, h]
  · rw [if_neg hc]
theorem slt_up4 {M M' : MM} {g t y v : Nat} (h : slt M M' g t) : slt M (up2 M' 4 y v) g t := by
  have o : ∀ x z, x ≠ 4 → up2 M' 4 y v x z = M' x z := fun x z hx => up2_ne _ _ (fun w => hx w.1)
  refine ⟨by rw [o _ _ (by decide)]; exact h.1, fun k hk => by rw [o _ _ (by decide)]; exact h.2.1 k hk, fun u hu => ⟨by rw [o _ _ (by decide)]; exact (h.2.2 u hu).1, fun k hk => by rw [o _ _ (by decide)]; exact (h.2.2 u hu).2 k hk⟩⟩
/-- a node takes the log of slot g; its sure stays as yet -/
theorem c_log {b n f i g lg : Nat} {X : Mem} {M : MM} (P : Nat → Nat) (hs : Sd b n f X M) (hJ : J M) (hi : i < n) (hg : g < 295) (hlg : LogAt b n X lg M g) : cM b n (wR X (na b i) 12 (some lg)) M P = cM b n (wR X (na b i) 12 (some lg)) (up2 (m_cp M g i) 4 i (M 4 i)) P ∧ Sd b n f (wR X (na b i) 12 (some lg)) (up2 (m_cp M g i) 4 i (M 4 i)) ∧ go b n X (wR X (na b i) 12 (some lg)) := by
  have hn5 : n ≤ 5 := by have := g_nf hs; omega
  have o : ∀ x y, x ≠ 2 → x ≠ 3 → x ≠ 4 → up2 (m_cp M g i) 4 i (M 4 i) x y = M x y := fun x y h2 h3 h4 => by
    rw [up2_ne _ _ (fun w => h4 w.1), m_cp_o _ _ _ ⟨h2, h3, h4⟩]
  have o4 : ∀ y, up2 (m_cp M g i) 4 i (M 4 i) 4 y = M 4 y := fun y => by
    by_cases hy : y = i
    · subst hy; rw [up2_self]
    · rw [up2_ne _ _ (fun w => hy w.2), m_cp_4 _ _ _ hy]
  obtain ⟨h1, h2⟩ := Sd_log hs hJ.2.1 hJ.1.2 hi hg hlg (slt_up4 (y := i) (v := M 4 i) (slt_cp M g i)) (fun y _ => o4 y) (fun x y hx => o x y (by omega) (by omega) (by omega))
  exact ⟨cM_hid hn5 _ P (fun u _ => o4 u) (fun x y hx => o x y (by omega) (by omega) (by omega)), h1, h2⟩
theorem J_hav {M : MM} {g i w s : Nat} (h : J M) (hg : g < 295) (hs : s ≤ M 3 g) : J (up2 (up2 (m_cp M g i) 4 i w) 4 i s) := by
  rw [up2_up2]
  refine J_slt h hg (bM_up (bM_cp h.1 g i) 4 i (Nat.lt_of_le_of_lt hs (h.1.1 3 g rfl))) (slt_up4 (slt_cp M g i)) (fun y hy => by rw [up2_ne _ _ (fun z => hy z.2), m_cp_4 _ _ _ hy]) (by rw [up2_self]; exact hs) (by rw [up2_ne _ _ (by omega), m_cp_o _ _ _ (by decide)]) (fun y => by rw [up2_ne _ _ (by omega), m_cp_o _ _ _ (by decide)])
theorem mx_nI {a c : Nat} (ha : a < 2147483648) (hc : c < 2147483648) : (if nI a < nI c then nI c else nI a) = nI (m_gre a c) := by
  unfold m_gre
  by_cases h : a < c
  · rw [if_pos (nI_lt h hc), if_neg (by omega)]
  · rw [if_neg (fun z => h ((nI_ltI ha hc).mp z))]
    by_cases h2 : c < a
    · rw [if_pos h2]
    · rw [if_neg h2]; congr 1; omega
theorem mn_nI {a c : Nat} (ha : a < 2147483648) (hc : c < 2147483648) : (if nI c < nI a then nI c else nI a) = nI (m_les a c) := by
  unfold m_les
  by_cases h : c < a
  · rw [if_pos (nI_lt h ha), if_neg (by omega)]
  · rw [if_neg (fun z => h ((nI_ltI hc ha).mp z))]
    by_cases h2 : a < c
    · rw [if_pos h2]
    · rw [if_neg h2]; congr 1; omega
section MXROWS
variable {p : Program} {l : Launch} {e : Env} {R : Room} {s : State} {m : MethodId} {args : Array Value} {below : List Frame} {meth : Method} {c : Code} {H : Heap} {locs : List Loc} {cells slots : Nat} {Q : State → Prop}
variable {cc : ByteArray} {pc nL : Nat} {ls : Array Slot} {rest : List Value} {D : va_G} {cA : Nat → ClassId} {Ts : List Cond} {own : String}
theorem n_max (hC : cx p s m args c cc nL Ts own D cA) (hsz : ls.size = nL) {index a d : Nat} (hlink : (Cond.methodLink own index Lib.Math.max.name).before args s = true) (hstat : (Cond.static Lib.Math.max.name).before args s = true) (hini : (Cond.initialized "java/lang/Math").before args s = true) (hcode : (Cond.code Lib.Math.max.name Lib.Math.max.code 2 (some .int)).before args s = true) (hf : 1 ≤ R.frames) (hlo : (rest.map fun v => v.category).sum + 13 ≤ R.locals) (h1 : cells ≤ R.cells) (h2 : slots ≤ R.slots) (ha : a < 2147483648) (hd : d < 2147483648) (hdg : decode cc pc = .ok (.invokestatic index, 3))
    (kk : W p l e R s m args below meth c H locs cells slots Q (F0 m (pc + 3) ls (.int (nI (m_gre a d)) :: rest))) : W p l e R s m args below meth c H locs cells slots Q (F0 m pc ls (.int (nI d) :: .int (nI a) :: rest)) :=
  va_mmax hC.1.1 hC.1.2.1 (hC.1.2.2.1.trans hsz.symm) hC.1.2.2.2.1 hlink hstat hini hcode hf hlo h1 h2 hdg (by rw [mx_nI ha hd]; exact kk)
theorem n_min (hC : cx p s m args c cc nL Ts own D cA) (hsz : ls.size = nL) {index a d : Nat} (hlink : (Cond.methodLink own index Lib.Math.min.name).before args s = true) (hstat : (Cond.static Lib.Math.min.name).before args s = true) (hini : (Cond.initialized "java/lang/Math").before args s = true) (hcode : (Cond.code Lib.Math.min.name Lib.Math.min.code 2 (some .int)).before args s = true) (hf : 1 ≤ R.frames) (hlo : (rest.map fun v => v.category).sum + 13 ≤ R.locals) (h1 : cells ≤ R.cells) (h2 : slots ≤ R.slots) (ha : a < 2147483648) (hd : d < 2147483648) (hdg : decode cc pc = .ok (.invokestatic index, 3))
    (kk : W p l e R s m args below meth c H locs cells slots Q (F0 m (pc + 3) ls (.int (nI (m_les a d)) :: rest))) : W p l e R s m args below meth c H locs cells slots Q (F0 m pc ls (.int (nI d) :: .int (nI a) :: rest)) :=
  va_mmin hC.1.1 hC.1.2.1 (hC.1.2.2.1.trans hsz.symm) hC.1.2.2.2.1 hlink hstat hini hcode hf hlo h1 h2 hdg (by rw [mn_nI ha hd]; exact kk)
end MXROWS
