/-! ===== the pure machine's steps, a row an instruction ===== -/
abbrev Wp : pm_K := pm_W pm_md pm_ft pm_nf pm_code
/-- an array -/
def pm_ay (M : pm_M) (a k n : Nat) : Prop := 0 < a ∧ a < M.1 ∧ pm_kd M a = k ∧ pm_ln M a = n
def pm_on (M : pm_M) (a c : Nat) : Prop := 0 < a ∧ a < M.1 ∧ pm_kd M a = c
theorem pm_up_1 (M : pm_M) (a : Nat) (f : Nat → Int) : (pm_up M a f).1 = M.1 := rfl
theorem pm_kd_up (M : pm_M) (a b : Nat) (f : Nat → Int) : pm_kd (pm_up M a f) b = pm_kd M b := by
  unfold pm_kd pm_up
  by_cases h : b = a
  · subst h; simp [pm_kd]
  · simp [h]
theorem pm_ln_up (M : pm_M) (a b : Nat) (f : Nat → Int) : pm_ln (pm_up M a f) b = pm_ln M b := by
  unfold pm_ln pm_up
  by_cases h : b = a
  · subst h; simp [pm_ln]
  · simp [h]
theorem pm_ct_eq (M : pm_M) (a : Nat) (f : Nat → Int) : pm_ct (pm_up M a f) a = f := by simp [pm_ct, pm_up]
theorem pm_ct_ne {M : pm_M} {a b : Nat} {f : Nat → Int} (h : b ≠ a) : pm_ct (pm_up M a f) b = pm_ct M b := by simp [pm_ct, pm_up, h]
theorem pm_ct_up (M : pm_M) (a b : Nat) (f : Nat → Int) : pm_ct (pm_up M a f) b = if b = a then f else pm_ct M b := by
  by_cases h : b = a
  · subst h; rw [if_pos rfl, pm_ct_eq]
  · rw [if_neg h, pm_ct_ne h]
theorem pm_upd_eq (f : Nat → Int) (k : Nat) (z : Int) : pm_upd f k z k = z := by simp [pm_upd]
theorem pm_upd_ne {f : Nat → Int} {k j : Nat} {z : Int} (h : j ≠ k) : pm_upd f k z j = f j := by simp [pm_upd, h]
theorem pm_ay_up {M : pm_M} {b : Nat} {f : Nat → Int} {a k n : Nat} : pm_ay (pm_up M b f) a k n ↔ pm_ay M a k n := by unfold pm_ay; rw [pm_kd_up, pm_ln_up, pm_up_1]
theorem pm_on_up {M : pm_M} {b : Nat} {f : Nat → Int} {a c : Nat} : pm_on (pm_up M b f) a c ↔ pm_on M a c := by unfold pm_on; rw [pm_kd_up, pm_up_1]
theorem pm_up_up (M : pm_M) (a : Nat) (f g : Nat → Int) : pm_up (pm_up M a f) a g = pm_up M a g := by
  unfold pm_up
  congr 1
  funext b
  by_cases h : b = a
  · subst h; simp [pm_kd, pm_ln]
  · simp [h]
theorem pm_on.ob {M : pm_M} {a c : Nat} (h : pm_on M a c) : pm_ob M (a : Int) c := ⟨by have := h.1; omega, h.2.1, h.2.2⟩
theorem pm_ay.ix {M : pm_M} {a k n : Nat} (h : pm_ay M a k n) {i : Int} (hi : 0 ≤ i ∧ i < n) : pm_ix M (a : Int) i k := ⟨by omega, h.2.1, h.2.2.1, hi.1, by have := h.2.2.2; show i.toNat < pm_ln M a; omega⟩
section G
variable {d y pc l e1 e2 e4 : Nat} {e3 : Int} {ls st r : List pm_V} {M : pm_M} {cb sb : Nat} {Q : pm_Q} {a b z : Int} {k : Nat}
abbrev Lk (y pc : Nat) (i : Instr) (e1 e2 : Nat) (e3 : Int) : Prop := ∃ l e4, pm_look (pm_code y) pc = some (pc, i, l, e1, e2, e3, e4)
theorem g_at {i : Instr} (h : Lk y pc i e1 e2 e3) (k : pm_ex pm_md pm_ft pm_nf Wp d y pc ls st M cb sb Q e1 e2 e3 i) : Wp d y pc ls st M cb sb Q := by
  obtain ⟨l, e4, h⟩ := h
  exact pm_go _ _ _ _ ⟨_, h, k⟩
theorem pm_ld_mk {t i : Nat} {k : Int → Prop} (hv : ls[i]? = some (t, z)) (h : k z) : pm_ld t ls i k := by unfold pm_ld; rw [hv]; exact ⟨rfl, h⟩
theorem g_iconst {n : Int} (h : Lk y pc (.iconst n) e1 e2 e3) (k : Wp d y (pc + 1) ls ((0, n) :: st) M cb sb Q) : Wp d y pc ls st M cb sb Q := g_at h k
theorem g_bipush {n : Int} (h : Lk y pc (.bipush n) e1 e2 e3) (k : Wp d y (pc + 2) ls ((0, n) :: st) M cb sb Q) : Wp d y pc ls st M cb sb Q := g_at h k
theorem g_sipush {n : Int} (h : Lk y pc (.sipush n) e1 e2 e3) (k : Wp d y (pc + 3) ls ((0, n) :: st) M cb sb Q) : Wp d y pc ls st M cb sb Q := g_at h k
theorem g_ldc {n : Nat} (h : Lk y pc (.ldc n) e1 e2 e3) (k : Wp d y (pc + 2) ls ((0, e3) :: st) M cb sb Q) : Wp d y pc ls st M cb sb Q := g_at h k
theorem g_ldc_w {n : Nat} (h : Lk y pc (.ldc_w n) e1 e2 e3) (k : Wp d y (pc + 3) ls ((0, e3) :: st) M cb sb Q) : Wp d y pc ls st M cb sb Q := g_at h k
theorem g_ldc2_w {n : Nat} (h : Lk y pc (.ldc2_w n) e1 e2 e3) (k : Wp d y (pc + 3) ls ((1, e3) :: st) M cb sb Q) : Wp d y pc ls st M cb sb Q := g_at h k
theorem g_lconst {n : Fin 2} (h : Lk y pc (.lconst n) e1 e2 e3) (k : Wp d y (pc + 1) ls ((1, ((n : Nat) : Int)) :: st) M cb sb Q) : Wp d y pc ls st M cb sb Q := g_at h k
theorem g_iload {n : Nat} (h : Lk y pc (.iload n) e1 e2 e3) (hv : ls[n]? = some (0, z)) (k : Wp d y (pc + 2) ls ((0, z) :: st) M cb sb Q) : Wp d y pc ls st M cb sb Q := g_at h (pm_ld_mk (t := 0) (i := n) (k := fun z => Wp d y (pc + 2) ls ((0, z) :: st) M cb sb Q) hv k)
theorem g_iload_n {n : Fin 4} (h : Lk y pc (.iload_n n) e1 e2 e3) (hv : ls[(n : Nat)]? = some (0, z)) (k : Wp d y (pc + 1) ls ((0, z) :: st) M cb sb Q) : Wp d y pc ls st M cb sb Q := g_at h (pm_ld_mk (t := 0) (i := (n : Nat)) (k := fun z => Wp d y (pc + 1) ls ((0, z) :: st) M cb sb Q) hv k)
theorem g_lload {n : Nat} (h : Lk y pc (.lload n) e1 e2 e3) (hv : ls[n]? = some (1, z)) (k : Wp d y (pc + 2) ls ((1, z) :: st) M cb sb Q) : Wp d y pc ls st M cb sb Q := g_at h (pm_ld_mk (t := 1) (i := n) (k := fun z => Wp d y (pc + 2) ls ((1, z) :: st) M cb sb Q) hv k)
theorem g_lload_n {n : Fin 4} (h : Lk y pc (.lload_n n) e1 e2 e3) (hv : ls[(n : Nat)]? = some (1, z)) (k : Wp d y (pc + 1) ls ((1, z) :: st) M cb sb Q) : Wp d y pc ls st M cb sb Q := g_at h (pm_ld_mk (t := 1) (i := (n : Nat)) (k := fun z => Wp d y (pc + 1) ls ((1, z) :: st) M cb sb Q) hv k)
theorem g_aload {n : Nat} (h : Lk y pc (.aload n) e1 e2 e3) {p : Nat} (hv : ls[n]? = some (2, (p : Int))) (k : Wp d y (pc + 2) ls ((2, (p : Int)) :: st) M cb sb Q) : Wp d y pc ls st M cb sb Q := g_at h (pm_ld_mk (t := 2) (i := n) (k := fun z => 0 ≤ z ∧ Wp d y (pc + 2) ls ((2, z) :: st) M cb sb Q) hv ⟨Int.natCast_nonneg p, k⟩)
theorem g_aload_n {n : Fin 4} (h : Lk y pc (.aload_n n) e1 e2 e3) {p : Nat} (hv : ls[(n : Nat)]? = some (2, (p : Int))) (k : Wp d y (pc + 1) ls ((2, (p : Int)) :: st) M cb sb Q) : Wp d y pc ls st M cb sb Q := g_at h (pm_ld_mk (t := 2) (i := (n : Nat)) (k := fun z => 0 ≤ z ∧ Wp d y (pc + 1) ls ((2, z) :: st) M cb sb Q) hv ⟨Int.natCast_nonneg p, k⟩)
theorem g_istore {n : Nat} {ls' : List pm_V} (h : Lk y pc (.istore n) e1 e2 e3) (hs : pm_s1 ls n = true) (he : ls.set n (0, z) = ls') (k : Wp d y (pc + 2) ls' r M cb sb Q) : Wp d y pc ls ((0, z) :: r) M cb sb Q := g_at h ⟨hs, by rw [he]; exact k⟩
theorem g_istore_n {n : Fin 4} {ls' : List pm_V} (h : Lk y pc (.istore_n n) e1 e2 e3) (hs : pm_s1 ls n = true) (he : ls.set n (0, z) = ls') (k : Wp d y (pc + 1) ls' r M cb sb Q) : Wp d y pc ls ((0, z) :: r) M cb sb Q := g_at h ⟨hs, by rw [he]; exact k⟩
theorem g_lstore {n : Nat} {ls' : List pm_V} (h : Lk y pc (.lstore n) e1 e2 e3) (hs : pm_s2 ls n = true) (he : (ls.set n (1, z)).set (n + 1) (9, 0) = ls') (k : Wp d y (pc + 2) ls' r M cb sb Q) : Wp d y pc ls ((1, z) :: r) M cb sb Q := g_at h ⟨hs, by rw [he]; exact k⟩
theorem g_lstore_n {n : Fin 4} {ls' : List pm_V} (h : Lk y pc (.lstore_n n) e1 e2 e3) (hs : pm_s2 ls n = true) (he : (ls.set n (1, z)).set (n + 1) (9, 0) = ls') (k : Wp d y (pc + 1) ls' r M cb sb Q) : Wp d y pc ls ((1, z) :: r) M cb sb Q := g_at h ⟨hs, by rw [he]; exact k⟩
theorem g_astore {n : Nat} {ls' : List pm_V} (h : Lk y pc (.astore n) e1 e2 e3) {p : Nat} (hs : pm_s1 ls n = true) (he : ls.set n (2, (p : Int)) = ls') (k : Wp d y (pc + 2) ls' r M cb sb Q) : Wp d y pc ls ((2, (p : Int)) :: r) M cb sb Q := g_at h ⟨Int.natCast_nonneg p, hs, by rw [he]; exact k⟩
theorem g_astore_n {n : Fin 4} {ls' : List pm_V} (h : Lk y pc (.astore_n n) e1 e2 e3) {p : Nat} (hs : pm_s1 ls n = true) (he : ls.set n (2, (p : Int)) = ls') (k : Wp d y (pc + 1) ls' r M cb sb Q) : Wp d y pc ls ((2, (p : Int)) :: r) M cb sb Q := g_at h ⟨Int.natCast_nonneg p, hs, by rw [he]; exact k⟩
theorem g_iinc {n : Nat} {c : Int} {ls' : List pm_V} (h : Lk y pc (.iinc n c) e1 e2 e3) (hv : ls[n]? = some (0, z)) (hs : pm_s1 ls n = true) (he : ls.set n (0, z + c) = ls') (k : Wp d y (pc + 3) ls' st M cb sb Q) : Wp d y pc ls st M cb sb Q := g_at h (pm_ld_mk (t := 0) (i := n) (k := fun z => pm_s1 ls n = true ∧ Wp d y (pc + 3) (ls.set n (0, z + c)) st M cb sb Q) hv ⟨hs, by rw [he]; exact k⟩)
theorem g_iadd (h : Lk y pc .iadd e1 e2 e3) (k : Wp d y (pc + 1) ls ((0, a + b) :: r) M cb sb Q) : Wp d y pc ls ((0, b) :: (0, a) :: r) M cb sb Q := g_at h k
theorem g_isub (h : Lk y pc .isub e1 e2 e3) (k : Wp d y (pc + 1) ls ((0, a - b) :: r) M cb sb Q) : Wp d y pc ls ((0, b) :: (0, a) :: r) M cb sb Q := g_at h k
theorem g_imul (h : Lk y pc .imul e1 e2 e3) (k : Wp d y (pc + 1) ls ((0, a * b) :: r) M cb sb Q) : Wp d y pc ls ((0, b) :: (0, a) :: r) M cb sb Q := g_at h k
theorem g_ineg (h : Lk y pc .ineg e1 e2 e3) (k : Wp d y (pc + 1) ls ((0, -a) :: r) M cb sb Q) : Wp d y pc ls ((0, a) :: r) M cb sb Q := g_at h k
theorem g_iand (h : Lk y pc .iand e1 e2 e3) (k : Wp d y (pc + 1) ls ((0, pm_and a b) :: r) M cb sb Q) : Wp d y pc ls ((0, b) :: (0, a) :: r) M cb sb Q := g_at h k
theorem g_ior (h : Lk y pc .ior e1 e2 e3) (k : Wp d y (pc + 1) ls ((0, pm_or a b) :: r) M cb sb Q) : Wp d y pc ls ((0, b) :: (0, a) :: r) M cb sb Q := g_at h k
theorem g_ixor (h : Lk y pc .ixor e1 e2 e3) (k : Wp d y (pc + 1) ls ((0, pm_xor a b) :: r) M cb sb Q) : Wp d y pc ls ((0, b) :: (0, a) :: r) M cb sb Q := g_at h k
theorem g_ishl (h : Lk y pc .ishl e1 e2 e3) (k : Wp d y (pc + 1) ls ((0, pm_shl a b) :: r) M cb sb Q) : Wp d y pc ls ((0, b) :: (0, a) :: r) M cb sb Q := g_at h k
theorem g_ishr (h : Lk y pc .ishr e1 e2 e3) (k : Wp d y (pc + 1) ls ((0, pm_shr a b) :: r) M cb sb Q) : Wp d y pc ls ((0, b) :: (0, a) :: r) M cb sb Q := g_at h k
theorem g_iushr (h : Lk y pc .iushr e1 e2 e3) (k : Wp d y (pc + 1) ls ((0, pm_ushr a b) :: r) M cb sb Q) : Wp d y pc ls ((0, b) :: (0, a) :: r) M cb sb Q := g_at h k
theorem g_idiv (h : Lk y pc .idiv e1 e2 e3) (ha : pm_inI a) (hb : pm_inI b) (h0 : ¬ b = 0) (k : Wp d y (pc + 1) ls ((0, a.tdiv b) :: r) M cb sb Q) : Wp d y pc ls ((0, b) :: (0, a) :: r) M cb sb Q := g_at h ⟨by rw [pm_wI_of hb]; exact h0, by rw [pm_wI_of ha, pm_wI_of hb]; exact k⟩
theorem g_irem (h : Lk y pc .irem e1 e2 e3) (ha : pm_inI a) (hb : pm_inI b) (h0 : ¬ b = 0) (k : Wp d y (pc + 1) ls ((0, a.tmod b) :: r) M cb sb Q) : Wp d y pc ls ((0, b) :: (0, a) :: r) M cb sb Q := g_at h ⟨by rw [pm_wI_of hb]; exact h0, by rw [pm_wI_of ha, pm_wI_of hb]; exact k⟩
theorem g_ladd (h : Lk y pc .ladd e1 e2 e3) (k : Wp d y (pc + 1) ls ((1, a + b) :: r) M cb sb Q) : Wp d y pc ls ((1, b) :: (1, a) :: r) M cb sb Q := g_at h k
theorem g_lsub (h : Lk y pc .lsub e1 e2 e3) (k : Wp d y (pc + 1) ls ((1, a - b) :: r) M cb sb Q) : Wp d y pc ls ((1, b) :: (1, a) :: r) M cb sb Q := g_at h k
theorem g_lmul (h : Lk y pc .lmul e1 e2 e3) (k : Wp d y (pc + 1) ls ((1, a * b) :: r) M cb sb Q) : Wp d y pc ls ((1, b) :: (1, a) :: r) M cb sb Q := g_at h k
theorem g_lneg (h : Lk y pc .lneg e1 e2 e3) (k : Wp d y (pc + 1) ls ((1, -a) :: r) M cb sb Q) : Wp d y pc ls ((1, a) :: r) M cb sb Q := g_at h k
theorem g_ldiv (h : Lk y pc .ldiv e1 e2 e3) (h0 : ¬ pm_wL b = 0) (k : Wp d y (pc + 1) ls ((1, (pm_wL a).tdiv (pm_wL b)) :: r) M cb sb Q) : Wp d y pc ls ((1, b) :: (1, a) :: r) M cb sb Q := g_at h ⟨h0, k⟩
theorem g_lrem (h : Lk y pc .lrem e1 e2 e3) (h0 : ¬ pm_wL b = 0) (k : Wp d y (pc + 1) ls ((1, (pm_wL a).tmod (pm_wL b)) :: r) M cb sb Q) : Wp d y pc ls ((1, b) :: (1, a) :: r) M cb sb Q := g_at h ⟨h0, k⟩
theorem g_land (h : Lk y pc .land e1 e2 e3) (k : Wp d y (pc + 1) ls ((1, pm_andL a b) :: r) M cb sb Q) : Wp d y pc ls ((1, b) :: (1, a) :: r) M cb sb Q := g_at h k
theorem g_lor (h : Lk y pc .lor e1 e2 e3) (k : Wp d y (pc + 1) ls ((1, pm_orL a b) :: r) M cb sb Q) : Wp d y pc ls ((1, b) :: (1, a) :: r) M cb sb Q := g_at h k
theorem g_lxor (h : Lk y pc .lxor e1 e2 e3) (k : Wp d y (pc + 1) ls ((1, pm_xorL a b) :: r) M cb sb Q) : Wp d y pc ls ((1, b) :: (1, a) :: r) M cb sb Q := g_at h k
theorem g_lshl (h : Lk y pc .lshl e1 e2 e3) (k : Wp d y (pc + 1) ls ((1, pm_shlL a b) :: r) M cb sb Q) : Wp d y pc ls ((0, b) :: (1, a) :: r) M cb sb Q := g_at h k
theorem g_lshr (h : Lk y pc .lshr e1 e2 e3) (k : Wp d y (pc + 1) ls ((1, pm_shrL a b) :: r) M cb sb Q) : Wp d y pc ls ((0, b) :: (1, a) :: r) M cb sb Q := g_at h k
theorem g_lushr (h : Lk y pc .lushr e1 e2 e3) (k : Wp d y (pc + 1) ls ((1, pm_ushrL a b) :: r) M cb sb Q) : Wp d y pc ls ((0, b) :: (1, a) :: r) M cb sb Q := g_at h k
theorem g_lcmp (h : Lk y pc .lcmp e1 e2 e3) (k : Wp d y (pc + 1) ls ((0, pm_cmp (pm_wL a) (pm_wL b)) :: r) M cb sb Q) : Wp d y pc ls ((1, b) :: (1, a) :: r) M cb sb Q := g_at h k
theorem g_i2l (h : Lk y pc .i2l e1 e2 e3) (ha : pm_inI a) (k : Wp d y (pc + 1) ls ((1, a) :: r) M cb sb Q) : Wp d y pc ls ((0, a) :: r) M cb sb Q := g_at h (by show Wp d y (pc + 1) ls ((1, pm_wI a) :: r) M cb sb Q; rw [pm_wI_of ha]; exact k)
theorem g_l2i (h : Lk y pc .l2i e1 e2 e3) (k : Wp d y (pc + 1) ls ((0, a) :: r) M cb sb Q) : Wp d y pc ls ((1, a) :: r) M cb sb Q := g_at h k
theorem g_i2b (h : Lk y pc .i2b e1 e2 e3) (k : Wp d y (pc + 1) ls ((0, pm_b8 a) :: r) M cb sb Q) : Wp d y pc ls ((0, a) :: r) M cb sb Q := g_at h k
theorem g_goto {o : Int} {t : Nat} (h : Lk y pc (.goto o) e1 e2 e3) (ht : ((pc : Int) + o).toNat = t) (k : Wp d y t ls st M cb sb Q) : Wp d y pc ls st M cb sb Q := g_at h (by show Wp d y ((pc : Int) + o).toNat ls st M cb sb Q; rw [ht]; exact k)
theorem g_if {c : ClassFile.Cond} {o : Int} {t : Nat} (h : Lk y pc (.ifCond c o) e1 e2 e3) (ht : ((pc : Int) + o).toNat = t) (ha : pm_inI a) (kt : pm_cnd c a 0 → Wp d y t ls r M cb sb Q) (kf : ¬ pm_cnd c a 0 → Wp d y (pc + 3) ls r M cb sb Q) : Wp d y pc ls ((0, a) :: r) M cb sb Q :=
  g_at h ⟨fun q => by rw [ht]; rw [pm_wI_of ha] at q; exact kt q, fun q => by rw [pm_wI_of ha] at q; exact kf q⟩
theorem g_icmp {c : ClassFile.Cond} {o : Int} {t : Nat} (h : Lk y pc (.if_icmp c o) e1 e2 e3) (ht : ((pc : Int) + o).toNat = t) (ha : pm_inI a) (hb : pm_inI b) (kt : pm_cnd c a b → Wp d y t ls r M cb sb Q) (kf : ¬ pm_cnd c a b → Wp d y (pc + 3) ls r M cb sb Q) : Wp d y pc ls ((0, b) :: (0, a) :: r) M cb sb Q :=
  g_at h ⟨fun q => by rw [ht]; rw [pm_wI_of ha, pm_wI_of hb] at q; exact kt q, fun q => by rw [pm_wI_of ha, pm_wI_of hb] at q; exact kf q⟩
theorem g_dup {v : pm_V} (h : Lk y pc .dup e1 e2 e3) (hc : pm_cat v = 1) (k : Wp d y (pc + 1) ls (v :: v :: r) M cb sb Q) : Wp d y pc ls (v :: r) M cb sb Q := g_at h ⟨hc, k⟩
theorem g_pop {v : pm_V} (h : Lk y pc .pop e1 e2 e3) (hc : pm_cat v = 1) (k : Wp d y (pc + 1) ls r M cb sb Q) : Wp d y pc ls (v :: r) M cb sb Q := g_at h ⟨hc, k⟩
theorem g_dup2 {v w : pm_V} (h : Lk y pc .dup2 e1 e2 e3) (hc : pm_cat v = 1) (hw : pm_cat w = 1) (k : Wp d y (pc + 1) ls (v :: w :: v :: w :: r) M cb sb Q) : Wp d y pc ls (v :: w :: r) M cb sb Q := g_at h ⟨hc, hw, k⟩
theorem g_getfield {n p t : Nat} (h : Lk y pc (.getfield n) e1 e2 e3) (ht : e3.toNat = t) (ho : pm_on M p e1) {v : Int} (hv : pm_ct M p e2 = v) (k : Wp d y (pc + 3) ls ((t, v) :: r) M cb sb Q) : Wp d y pc ls ((2, (p : Int)) :: r) M cb sb Q := g_at h ⟨ho.ob, by subst ht; subst hv; exact k⟩
theorem g_putfield {n p t : Nat} (h : Lk y pc (.putfield n) e1 e2 e3) (ht : e3.toNat = t) (ho : pm_on M p e1) (hz : pm_ft e1 e2 = .boolean → z = 0 ∨ z = 1) (k : Wp d y (pc + 3) ls r (pm_up M p (pm_upd (pm_ct M p) e2 z)) cb sb Q) : Wp d y pc ls ((t, z) :: (2, (p : Int)) :: r) M cb sb Q := g_at h ⟨ht.symm, ho.ob, hz, k⟩
theorem g_iaload {p n : Nat} (h : Lk y pc .iaload e1 e2 e3) (ha : pm_ay M p 100 n) (hi : 0 ≤ a ∧ a < n) {v : Int} (hv : pm_ct M p a.toNat = v) (k : Wp d y (pc + 1) ls ((0, v) :: r) M cb sb Q) : Wp d y pc ls ((0, a) :: (2, (p : Int)) :: r) M cb sb Q := g_at h ⟨ha.ix hi, by subst hv; exact k⟩
theorem g_laload {p n : Nat} (h : Lk y pc .laload e1 e2 e3) (ha : pm_ay M p 101 n) (hi : 0 ≤ a ∧ a < n) {v : Int} (hv : pm_ct M p a.toNat = v) (k : Wp d y (pc + 1) ls ((1, v) :: r) M cb sb Q) : Wp d y pc ls ((0, a) :: (2, (p : Int)) :: r) M cb sb Q := g_at h ⟨by have := ha.1; omega, ha.ix hi, by subst hv; exact k⟩
theorem g_baload {p n : Nat} (h : Lk y pc .baload e1 e2 e3) (ha : pm_ay M p 102 n) (hi : 0 ≤ a ∧ a < n) {v : Int} (hv : pm_ct M p a.toNat = v) (k : Wp d y (pc + 1) ls ((0, v) :: r) M cb sb Q) : Wp d y pc ls ((0, a) :: (2, (p : Int)) :: r) M cb sb Q := g_at h ⟨by have := ha.1; omega, ha.ix hi, by subst hv; exact k⟩
theorem g_aaload {p n c : Nat} (h : Lk y pc .aaload e1 e2 e3) (hc : 103 ≤ c ∧ c ≤ 105) (ha : pm_ay M p c n) (hi : 0 ≤ a ∧ a < n) {v : Int} (hv : pm_ct M p a.toNat = v) (k : Wp d y (pc + 1) ls ((2, v) :: r) M cb sb Q) : Wp d y pc ls ((0, a) :: (2, (p : Int)) :: r) M cb sb Q := g_at h ⟨by have := ha.1; omega, c, hc.1, hc.2, ha.ix hi, by subst hv; exact k⟩
theorem g_iastore {p n : Nat} (h : Lk y pc .iastore e1 e2 e3) (ha : pm_ay M p 100 n) (hi : 0 ≤ a ∧ a < n) (k : Wp d y (pc + 1) ls r (pm_up M p (pm_upd (pm_ct M p) a.toNat z)) cb sb Q) : Wp d y pc ls ((0, z) :: (0, a) :: (2, (p : Int)) :: r) M cb sb Q := g_at h ⟨rfl, by have := ha.1; omega, ha.ix hi, k⟩
theorem g_lastore {p n : Nat} (h : Lk y pc .lastore e1 e2 e3) (ha : pm_ay M p 101 n) (hi : 0 ≤ a ∧ a < n) (k : Wp d y (pc + 1) ls r (pm_up M p (pm_upd (pm_ct M p) a.toNat z)) cb sb Q) : Wp d y pc ls ((1, z) :: (0, a) :: (2, (p : Int)) :: r) M cb sb Q := g_at h ⟨rfl, by have := ha.1; omega, ha.ix hi, k⟩
theorem g_bastore {p n : Nat} (h : Lk y pc .bastore e1 e2 e3) (ha : pm_ay M p 102 n) (hi : 0 ≤ a ∧ a < n) (k : Wp d y (pc + 1) ls r (pm_up M p (pm_upd (pm_ct M p) a.toNat (pm_b8 z))) cb sb Q) : Wp d y pc ls ((0, z) :: (0, a) :: (2, (p : Int)) :: r) M cb sb Q := g_at h ⟨rfl, by have := ha.1; omega, ha.ix hi, k⟩
theorem g_arraylength {p n c : Nat} (h : Lk y pc .arraylength e1 e2 e3) (hc : 100 ≤ c ∧ c ≤ 105) (ha : pm_ay M p c n) (k : Wp d y (pc + 1) ls ((0, (n : Int)) :: r) M cb sb Q) : Wp d y pc ls ((2, (p : Int)) :: r) M cb sb Q := g_at h ⟨by omega, ha.2.1, by show 100 ≤ pm_kd M p; rw [ha.2.2.1]; exact hc.1, by show pm_kd M p ≤ 105; rw [ha.2.2.1]; exact hc.2, by show Wp d y (pc + 1) ls ((0, (pm_ln M p : Int)) :: r) M cb sb Q; rw [ha.2.2.2]; exact k⟩
theorem g_ireturn (h : Lk y pc .ireturn e1 e2 e3) (hz : e1 = 1 → z = 0 ∨ z = 1) (k : Q (some (0, z)) M) : Wp d y pc ls [(0, z)] M cb sb Q := g_at h ⟨hz, k⟩
theorem g_lreturn (h : Lk y pc .lreturn e1 e2 e3) (k : Q (some (1, z)) M) : Wp d y pc ls [(1, z)] M cb sb Q := g_at h k
theorem g_areturn {p : Nat} (h : Lk y pc .areturn e1 e2 e3) (k : Q (some (2, (p : Int))) M) : Wp d y pc ls [(2, (p : Int))] M cb sb Q := g_at h ⟨Int.natCast_nonneg p, k⟩
theorem g_return (h : Lk y pc .return_ e1 e2 e3) (k : Q none M) : Wp d y pc ls [] M cb sb Q := g_at h k
/-- a method from its entry: 'E' -/
def pm_E (d y : Nat) (as : List pm_V) (M : pm_M) (mc ms : Nat) (Q : pm_Q) : Prop := Wp d y 0 (pm_en as (pm_md y).2.2.1) [] M mc ms Q
theorem g_static {n y' np mc ms : Nat} {as rest : List pm_V} {Qc : pm_Q} (h : Lk y pc (.invokestatic n) y' e2 e3) (h9 : y' < 1000) (hn : (pm_md y').2.2.2.2.1 = np) (hlen : np ≤ st.length) (ha : (st.take np).reverse = as) (hr : st.drop np = rest) (hf : (pm_fl as).length ≤ (pm_md y').2.2.1) (hs : (rest.map pm_cat).sum ≤ 8) (hmc : mc ≤ cb) (hms : ms ≤ sb)
    (hc : pm_E d y' as M mc ms Qc) (k : ∀ (ρ : Option pm_V) (M' : pm_M), Qc ρ M' → Wp (d + 1) y (pc + 3) ls (ρ.toList ++ rest) M' (cb - mc) (sb - ms) Q) : Wp (d + 1) y pc ls st M cb sb Q :=
  g_at h (by
    subst hn; subst ha; subst hr
    show (if y' = 1000 then _ else if y' = 1001 then _ else if y' = 1002 then _ else _)
    rw [if_neg (by omega), if_neg (by omega), if_neg (by omega)]
    exact ⟨hlen, hf, hs, d, mc, ms, Qc, rfl, hmc, hms, hc, k⟩)
theorem g_virtual {n y' np mc ms p : Nat} {as rest : List pm_V} {Qc : pm_Q} (h : Lk y pc (.invokevirtual n) y' e2 e3) (hn : (pm_md y').2.2.2.2.1 = np) (hlen : np ≤ st.length) (ha : (st.take np).reverse = as) (hr : st.drop np = (2, (p : Int)) :: rest) (ho : pm_on M p (pm_md y').2.2.2.2.2) (hf : (pm_fl ((2, (p : Int)) :: as)).length ≤ (pm_md y').2.2.1) (hs : (rest.map pm_cat).sum ≤ 8) (hmc : mc ≤ cb) (hms : ms ≤ sb)
    (hc : pm_E d y' ((2, (p : Int)) :: as) M mc ms Qc) (k : ∀ (ρ : Option pm_V) (M' : pm_M), Qc ρ M' → Wp (d + 1) y (pc + 3) ls (ρ.toList ++ rest) M' (cb - mc) (sb - ms) Q) : Wp (d + 1) y pc ls st M cb sb Q :=
  g_at h (by subst hn; subst ha; exact ⟨hlen, by rw [hr]; exact ⟨ho.ob, hf, hs, d, mc, ms, Qc, rfl, hmc, hms, hc, k⟩⟩)
theorem g_init {n y' np mc ms p : Nat} {as rest : List pm_V} {Qc : pm_Q} (h : Lk y pc (.invokespecial n) y' e2 e3) (h9 : ¬ y' = 999) (hn : (pm_md y').2.2.2.2.1 = np) (hlen : np ≤ st.length) (ha : (st.take np).reverse = as) (hr : st.drop np = (2, (p : Int)) :: rest) (hf : (pm_fl ((2, (p : Int)) :: as)).length ≤ (pm_md y').2.2.1) (hs : (rest.map pm_cat).sum ≤ 8) (hmc : mc ≤ cb) (hms : ms ≤ sb)
    (hc : pm_E d y' ((2, (p : Int)) :: as) M mc ms Qc) (k : ∀ (ρ : Option pm_V) (M' : pm_M), Qc ρ M' → Wp (d + 1) y (pc + 3) ls (ρ.toList ++ rest) M' (cb - mc) (sb - ms) Q) : Wp (d + 1) y pc ls st M cb sb Q :=
  g_at h (by
    subst hn; subst ha
    show (if y' = 999 then _ else _)
    rw [if_neg h9]
    exact ⟨hlen, by rw [hr]; exact ⟨Int.natCast_nonneg p, hf, hs, d, mc, ms, Qc, rfl, hmc, hms, hc, k⟩⟩)
theorem g_obj {n p : Nat} (h : Lk y pc (.invokespecial n) 999 e2 e3) (hs : (r.map pm_cat).sum ≤ 8) (k : Wp (d + 1) y (pc + 3) ls r M cb sb Q) : Wp (d + 1) y pc ls ((2, (p : Int)) :: r) M cb sb Q := g_at h ⟨Int.natCast_nonneg p, hs, by omega, k⟩
theorem g_newarray {t : ArrayType} {n : Nat} (h : Lk y pc (.newarray t) e1 e2 e3) (hn : n ≤ 100000) (hc : 1 ≤ cb) (hs : n ≤ sb) (k : Wp d y (pc + 2) ls ((2, (M.1 : Int)) :: r) (pm_new M (e1, n, fun _ => 0)) (cb - 1) (sb - n) Q) : Wp d y pc ls ((0, (n : Int)) :: r) M cb sb Q := g_at h ⟨by omega, by omega, hc, hs, k⟩
theorem g_anewarray {x n : Nat} (h : Lk y pc (.anewarray x) e1 e2 e3) (hn : n ≤ 100000) (hc : 1 ≤ cb) (hs : n ≤ sb) (k : Wp d y (pc + 3) ls ((2, (M.1 : Int)) :: r) (pm_new M (e1, n, fun _ => -1)) (cb - 1) (sb - n) Q) : Wp d y pc ls ((0, (n : Int)) :: r) M cb sb Q := g_at h ⟨by omega, by omega, hc, hs, k⟩
theorem g_new {x : Nat} (h : Lk y pc (.new x) e1 e2 e3) (hc : 1 ≤ cb) (hs : pm_nf e1 ≤ sb) (k : Wp d y (pc + 3) ls ((2, (M.1 : Int)) :: st) (pm_new M (e1, 0, fun k => pm_df (pm_ft e1 k))) (cb - 1) (sb - pm_nf e1) Q) : Wp d y pc ls st M cb sb Q := g_at h ⟨hc, hs, k⟩
end G
