/-! ===== how the pure heap stands in the machine's ===== -/
def pm_ad (b B a : Nat) : Nat := if a = 0 then b else B + a
def pm_rf (b B : Nat) (z : Int) : Option Nat := if z < 0 then none else some (pm_ad b B z.toNat)
def pm_vl (b B : Nat) (v : pm_V) : Value := match v.1 with
  | 0 => .int (Int32.ofInt v.2)
  | 1 => .long (Int64.ofInt v.2)
  | _ => va_rf (pm_rf b B v.2)
def pm_fs (b B c : Nat) (f : Nat → Int) : List Value := (List.range (pm_nf c)).map fun k => pm_vl b B (pm_tg (pm_ft c k), f k)
def pm_ar (b B k : Nat) (f : Nat → Int) : (Nat → Int32) ⊕ (Nat → Int64) ⊕ (Nat → UInt32) ⊕ (Nat → UInt64) ⊕ (Nat → Option Nat) :=
  if k = 101 then .inr (.inl fun j => Int64.ofInt (f j)) else if k ≤ 102 then .inl (fun j => Int32.ofInt (f j)) else .inr (.inr (.inr (.inr fun j => pm_rf b B (f j))))
def pm_nt (dA : Nat → ClassId) (b B : Nat) (c : pm_C) : va_E := if c.1 < 100 then .inr (c.1, pm_fs b B c.1 c.2.2) else .inl (dA c.1, c.2.1, pm_ar b B c.1 c.2.2)
def pm_tys (dA : Nat → ClassId) : List (ClassId × FieldType) := [(dA 100, .int), (dA 101, .long), (dA 102, .byte), (dA 103, .object (pm_el 103)), (dA 104, .object (pm_el 104)), (dA 105, .object (pm_el 105))]
def pm_R (D : va_G) (dA : Nat → ClassId) (b B L : Nat) (xs : Nat → Int32) (M : pm_M) (H : Heap) : Prop :=
  H.size = B + M.1 ∧ 1 ≤ M.1 ∧ b ≤ B ∧ M.2 0 = (100, L, fun j => (xs j).toInt) ∧ (∀ a, a < M.1 → pm_ln M a < 2147483648) ∧ ∀ a, 0 < a → a < M.1 → va_at D vwCl (B + a, pm_nt dA b B (M.2 a)) H
def pm_L (b B : Nat) (ls : List pm_V) (lv : Array Slot) (n : Nat) : Prop := lv.size = n ∧ lv_wf lv ∧ ls.length = n ∧ ∀ (i : Nat) (v : pm_V), ls[i]? = some v → v.1 ≠ 9 → lv[i]? = some (.val (pm_vl b B v))
theorem pm_ad_pos {b B a : Nat} (h : 0 < a) : pm_ad b B a = B + a := by simp [pm_ad, Nat.ne_of_gt h]
theorem pm_vl_r {b B : Nat} {a : Int} (h : 0 < a) : pm_vl b B (2, a) = .ref (B + a.toNat) := by
  have h1 : ¬ a < 0 := by omega
  have h2 : 0 < a.toNat := by omega
  simp [pm_vl, pm_rf, h1, va_rf, pm_ad_pos h2]
theorem pm_vl_r0 {b B : Nat} {a : Int} (h : 0 ≤ a) : pm_vl b B (2, a) = .ref (pm_ad b B a.toNat) := by
  have h1 : ¬ a < 0 := by omega
  simp [pm_vl, pm_rf, h1, va_rf]
theorem pm_cat_eq (b B : Nat) (v : pm_V) : (pm_vl b B v).category = pm_cat v := by
  obtain ⟨t, z⟩ := v
  match t with
  | 0 => rfl
  | 1 => rfl
  | t + 2 =>
    show (va_rf (pm_rf b B z)).category = _
    unfold pm_rf
    split <;> simp [va_rf, Value.category, pm_cat]
theorem pm_cats (b B : Nat) (r : List pm_V) : ((r.map (pm_vl b B)).map fun v => v.category).sum = (r.map pm_cat).sum := by
  rw [List.map_map]
  congr 1
  apply List.map_congr_left
  intro v _
  exact pm_cat_eq b B v
/-- what is known of a cell -/
theorem pm_R.at {D : va_G} {dA : Nat → ClassId} {b B L : Nat} {xs : Nat → Int32} {M : pm_M} {H : Heap} (h : pm_R D dA b B L xs M H) {a : Nat} (h0 : 0 < a) (h1 : a < M.1) : va_at D vwCl (B + a, pm_nt dA b B (M.2 a)) H := h.2.2.2.2.2 a h0 h1
theorem pm_R.ob {D : va_G} {dA : Nat → ClassId} {b B L : Nat} {xs : Nat → Int32} {M : pm_M} {H : Heap} (h : pm_R D dA b B L xs M H) {a : Int} {c : Nat} (hc : c < 100) (ho : pm_ob M a c) : va_P D vwCl [(B + a.toNat, .inr (c, pm_fs b B c (pm_ct M a.toNat)))] H := by
  obtain ⟨h0, h1, h2⟩ := ho
  have h3 := h.at (show 0 < a.toNat by omega) h1
  have h4 : (M.2 a.toNat).1 = c := h2
  intro k q hk
  match k, hk with
  | 0, hk =>
    cases hk
    unfold pm_nt at h3
    rw [if_pos (by rw [h4]; exact hc), h4] at h3
    exact h3
  | k + 1, hk => simp at hk
theorem pm_R.ar {D : va_G} {dA : Nat → ClassId} {b B L : Nat} {xs : Nat → Int32} {M : pm_M} {H : Heap} (h : pm_R D dA b B L xs M H) {a : Nat} {c : Nat} (hc : 100 ≤ c) (h0 : 0 < a) (h1 : a < M.1) (h2 : pm_kd M a = c) : va_P D vwCl [(B + a, .inl (dA c, pm_ln M a, pm_ar b B c (pm_ct M a)))] H := by
  have h3 := h.at h0 h1
  have h4 : (M.2 a).1 = c := h2
  intro k q hk
  match k, hk with
  | 0, hk =>
    cases hk
    unfold pm_nt at h3
    rw [if_neg (by rw [h4]; omega), h4] at h3
    exact h3
  | k + 1, hk => simp at hk
/-- one cell has changed -/
theorem pm_R.put {D : va_G} {dA : Nat → ClassId} {b B L : Nat} {xs : Nat → Int32} {M : pm_M} {H H1 : Heap} (h : pm_R D dA b B L xs M H) {a : Nat} (h0 : 0 < a) (h1 : a < M.1) (f : Nat → Int) (hz : H1.size = H.size) (ho : ∀ q, q ≠ B + a → H1[q]? = H[q]?)
    (hat : va_at D vwCl (B + a, pm_nt dA b B (pm_kd M a, pm_ln M a, f)) H1) : pm_R D dA b B L xs (pm_up M a f) H1 := by
  obtain ⟨r1, r2, r3, r4, r5, r6⟩ := h
  refine ⟨by rw [hz]; exact r1, r2, r3, ?_, fun q hq => ?_, fun q hq0 hq => ?_⟩
  · show (if 0 = a then _ else M.2 0) = _
    rw [if_neg (by omega)]; exact r4
  · show (if q = a then (pm_kd M a, pm_ln M a, f) else M.2 q).2.1 < _
    split
    · exact r5 a h1
    · exact r5 q hq
  · show va_at D vwCl (B + q, pm_nt dA b B (if q = a then (pm_kd M a, pm_ln M a, f) else M.2 q)) H1
    by_cases hqa : q = a
    · subst hqa; rw [if_pos rfl]; exact hat
    · rw [if_neg hqa]
      exact (r6 q hq0 hq).kept (ho (B + q) (by omega))
/-- a cell has come -/
theorem pm_R.push {D : va_G} {dA : Nat → ClassId} {b B L : Nat} {xs : Nat → Int32} {M : pm_M} {H H1 : Heap} (h : pm_R D dA b B L xs M H) (c : pm_C) (hl : c.2.1 < 2147483648) (hz : H1.size = H.size + 1) (ho : ∀ q, q < H.size → H1[q]? = H[q]?)
    (hat : va_at D vwCl (H.size, pm_nt dA b B c) H1) : pm_R D dA b B L xs (pm_new M c) H1 := by
  obtain ⟨r1, r2, r3, r4, r5, r6⟩ := h
  refine ⟨by rw [hz, r1]; rfl, Nat.le_succ_of_le r2, r3, ?_, fun q hq => ?_, fun q hq0 hq => ?_⟩
  · show (if 0 = M.1 then _ else M.2 0) = _
    rw [if_neg (by omega)]; exact r4
  · show (if q = M.1 then c else M.2 q).2.1 < _
    split
    · exact hl
    · rename_i hne
      have hq : q < M.1 + 1 := hq
      exact r5 q (by omega)
  · show va_at D vwCl (B + q, pm_nt dA b B (if q = M.1 then c else M.2 q)) H1
    by_cases hqa : q = M.1
    · subst hqa; rw [if_pos rfl, ← r1]; exact hat
    · rw [if_neg hqa]
      have hq : q < M.1 + 1 := hq
      exact (r6 q hq0 (by omega)).kept (ho (B + q) (by omega))
theorem pm_i1_inv {st : List pm_V} {k : Int → List pm_V → Prop} (h : pm_i1 st k) : ∃ a r, st = (0, a) :: r ∧ k a r := by
  unfold pm_i1 at h; split at h
  · exact ⟨_, _, rfl, h⟩
  · exact h.elim
theorem pm_i2_inv {st : List pm_V} {k : Int → Int → List pm_V → Prop} (h : pm_i2 st k) : ∃ a b r, st = (0, b) :: (0, a) :: r ∧ k a b r := by
  unfold pm_i2 at h; split at h
  · exact ⟨_, _, _, rfl, h⟩
  · exact h.elim
theorem pm_l1_inv {st : List pm_V} {k : Int → List pm_V → Prop} (h : pm_l1 st k) : ∃ a r, st = (1, a) :: r ∧ k a r := by
  unfold pm_l1 at h; split at h
  · exact ⟨_, _, rfl, h⟩
  · exact h.elim
theorem pm_l2_inv {st : List pm_V} {k : Int → Int → List pm_V → Prop} (h : pm_l2 st k) : ∃ a b r, st = (1, b) :: (1, a) :: r ∧ k a b r := by
  unfold pm_l2 at h; split at h
  · exact ⟨_, _, _, rfl, h⟩
  · exact h.elim
theorem pm_li_inv {st : List pm_V} {k : Int → Int → List pm_V → Prop} (h : pm_li st k) : ∃ a b r, st = (0, b) :: (1, a) :: r ∧ k a b r := by
  unfold pm_li at h; split at h
  · exact ⟨_, _, _, rfl, h⟩
  · exact h.elim
theorem pm_r1_inv {st : List pm_V} {k : Int → List pm_V → Prop} (h : pm_r1 st k) : ∃ a r, st = (2, a) :: r ∧ k a r := by
  unfold pm_r1 at h; split at h
  · exact ⟨_, _, rfl, h⟩
  · exact h.elim
theorem pm_ri_inv {st : List pm_V} {k : Int → Int → List pm_V → Prop} (h : pm_ri st k) : ∃ a i r, st = (0, i) :: (2, a) :: r ∧ k a i r := by
  unfold pm_ri at h; split at h
  · exact ⟨_, _, _, rfl, h⟩
  · exact h.elim
theorem pm_rit_inv {t : Nat} {st : List pm_V} {k : Int → Int → Int → List pm_V → Prop} (h : pm_rit t st k) : ∃ a i z r, st = (t, z) :: (0, i) :: (2, a) :: r ∧ k a i z r := by
  unfold pm_rit at h; split at h
  · obtain ⟨rfl, h⟩ := h
    exact ⟨_, _, _, _, rfl, h⟩
  · exact h.elim
theorem pm_rv_inv {t : Nat} {st : List pm_V} {k : Int → Int → List pm_V → Prop} (h : pm_rv t st k) : ∃ a z r, st = (t, z) :: (2, a) :: r ∧ k a z r := by
  unfold pm_rv at h; split at h
  · obtain ⟨rfl, h⟩ := h
    exact ⟨_, _, _, rfl, h⟩
  · exact h.elim
theorem pm_ld_inv {t : Nat} {ls : List pm_V} {i : Nat} {k : Int → Prop} (h : pm_ld t ls i k) : ∃ z, ls[i]? = some (t, z) ∧ k z := by
  unfold pm_ld at h; split at h
  · rename_i v hv
    obtain ⟨h1, h2⟩ := h
    exact ⟨v.2, by rw [hv, ← h1], h2⟩
  · exact h.elim
theorem pm_look_mem {l : List pm_I} {pc : Nat} {I : pm_I} (h : pm_look l pc = some I) : I ∈ l ∧ I.1 = pc := by
  induction l with
  | nil => simp [pm_look] at h
  | cons i t ih =>
    unfold pm_look at h
    split at h
    · rename_i he
      cases h
      exact ⟨List.mem_cons_self, he⟩
    · exact ⟨List.mem_cons_of_mem _ (ih h).1, (ih h).2⟩
theorem pm_ii {a : Int} (h : pm_inI a) : Int32.minValue.toInt ≤ a ∧ a ≤ Int32.maxValue.toInt := h
theorem pm_ofI_lt {a b : Int} (ha : pm_inI a) (hb : pm_inI b) : Int32.ofInt a < Int32.ofInt b ↔ a < b := Int32.ofInt_lt_iff_lt ha.1 ha.2 hb.1 hb.2
theorem pm_ofI_le {a b : Int} (ha : pm_inI a) (hb : pm_inI b) : Int32.ofInt a ≤ Int32.ofInt b ↔ a ≤ b := Int32.ofInt_le_iff_le ha.1 ha.2 hb.1 hb.2
theorem pm_toI {a : Int} (ha : pm_inI a) : (Int32.ofInt a).toInt = a := Int32.toInt_ofInt_of_le ha.1 (by have := ha.2; omega)
theorem pm_toL {a : Int} (ha : pm_inL a) : (Int64.ofInt a).toInt = a := Int64.toInt_ofInt_of_le ha.1 (by have := ha.2; omega)
theorem pm_ofI_eq {a b : Int} (ha : pm_inI a) (hb : pm_inI b) : Int32.ofInt a = Int32.ofInt b ↔ a = b := ⟨fun h => by have := congrArg Int32.toInt h; rwa [pm_toI ha, pm_toI hb] at this, fun h => by rw [h]⟩
theorem pm_ofL_lt {a b : Int} (ha : pm_inL a) (hb : pm_inL b) : Int64.ofInt a < Int64.ofInt b ↔ a < b := Int64.ofInt_lt_iff_lt ha.1 ha.2 hb.1 hb.2
theorem pm_ofL_eq {a b : Int} (ha : pm_inL a) (hb : pm_inL b) : Int64.ofInt a = Int64.ofInt b ↔ a = b := ⟨fun h => by have := congrArg Int64.toInt h; rwa [pm_toL ha, pm_toL hb] at this, fun h => by rw [h]⟩
theorem pm_wI_lt (a b : Int) : Int32.ofInt a < Int32.ofInt b ↔ pm_wI a < pm_wI b := Int32.lt_iff_toInt_lt
theorem pm_wI_le (a b : Int) : Int32.ofInt a ≤ Int32.ofInt b ↔ pm_wI a ≤ pm_wI b := Int32.le_iff_toInt_le
theorem pm_wI_eq (a b : Int) : Int32.ofInt a = Int32.ofInt b ↔ pm_wI a = pm_wI b := Int32.toInt_inj.symm
theorem pm_wL_lt (a b : Int) : Int64.ofInt a < Int64.ofInt b ↔ pm_wL a < pm_wL b := Int64.lt_iff_toInt_lt
theorem pm_wL_eq (a b : Int) : Int64.ofInt a = Int64.ofInt b ↔ pm_wL a = pm_wL b := Int64.toInt_inj.symm
theorem pm_of_wI (a : Int) : Int32.ofInt (pm_wI a) = Int32.ofInt a := Int32.ofInt_toInt _
theorem pm_of_wL (a : Int) : Int64.ofInt (pm_wL a) = Int64.ofInt a := Int64.ofInt_toInt _
theorem pm_wI_in (a : Int) : pm_inI (pm_wI a) := ⟨Int32.minValue_le_toInt _, Int32.toInt_le _⟩
theorem pm_wL_in (a : Int) : pm_inL (pm_wL a) := ⟨Int64.minValue_le_toInt _, Int64.toInt_le _⟩
theorem pm_wI_0 : pm_wI 0 = 0 := rfl
theorem pm_wI_of {a : Int} (h : pm_inI a) : pm_wI a = a := pm_toI h
theorem pm_wL_of {a : Int} (h : pm_inL a) : pm_wL a = a := pm_toL h
theorem pm_in0 : pm_inI 0 := by unfold pm_inI; omega
theorem pm_clamp {i : Int} (h0 : 0 ≤ i) (h1 : i < 2147483648) : (Int32.ofInt i).toNatClampNeg = i.toNat := Int32.toNatClampNeg_ofInt_of_le (by omega) h1
theorem pm_vpin {i : Int} {n : Nat} (h0 : 0 ≤ i) (h1 : i.toNat < n) (hn : n < 2147483648) : vp_in (Int32.ofInt i) n := by
  have hi : pm_inI i := ⟨by omega, by omega⟩
  intro h
  rcases h with h | h
  · have : Int32.ofInt i < Int32.ofInt 0 := h
    rw [pm_ofI_lt hi pm_in0] at this
    omega
  · rw [pm_clamp h0 (by omega)] at h
    omega
/-- places in the locals -/
theorem pm_L.get {b B : Nat} {ls : List pm_V} {lv : Array Slot} {n : Nat} (h : pm_L b B ls lv n) {i t : Nat} {z : Int} (hi : ls[i]? = some (t, z)) (ht : t ≠ 9) : lv[i]? = some (.val (pm_vl b B (t, z))) := h.2.2.2 i _ hi ht
def pm_lvs (b B : Nat) (ls : List pm_V) : List (Nat × Value) := (List.range ls.length).filterMap fun i => match ls[i]? with
  | some v => if v.1 = 9 then none else some (i, pm_vl b B v)
  | none => none
theorem pm_lvs_mem {b B : Nat} {ls : List pm_V} {q : Nat × Value} : q ∈ pm_lvs b B ls ↔ ∃ v, ls[q.1]? = some v ∧ v.1 ≠ 9 ∧ q.2 = pm_vl b B v := by
  unfold pm_lvs
  rw [List.mem_filterMap]
  constructor
  · rintro ⟨i, hi, h⟩
    split at h
    · rename_i v hv
      split at h
      · cases h
      · rename_i h9
        cases h
        exact ⟨v, hv, h9, rfl⟩
    · cases h
  · rintro ⟨v, h1, h2, h3⟩
    refine ⟨q.1, List.mem_range.mpr (List.getElem?_eq_some_iff.mp h1).1, ?_⟩
    rw [h1]
    simp only [if_neg h2, ← h3]
theorem pm_L.has {b B : Nat} {ls : List pm_V} {lv : Array Slot} {n : Nat} (h : pm_L b B ls lv n) : lv_has lv n (pm_lvs b B ls) := by
  refine ⟨h.1, h.2.1, fun q hq => ?_⟩
  obtain ⟨v, h1, h2, h3⟩ := pm_lvs_mem.mp hq
  rw [h3]
  exact h.2.2.2 q.1 v h1 h2
theorem pm_L.set1 {b B : Nat} {ls : List pm_V} {lv : Array Slot} {n i : Nat} {v : pm_V} (h : pm_L b B ls lv n) (hs : pm_s1 ls i = true) {lv' : Array Slot}
    (h' : lv_has lv' n ((i, pm_vl b B v) :: (pm_lvs b B ls).filter (fun q => !(q.1 == i) && !(q.1 + 1 == i && q.2.category == 2)))) : pm_L b B (ls.set i v) lv' n := by
  unfold pm_s1 at hs
  simp only [Bool.and_eq_true, Bool.or_eq_true, decide_eq_true_eq] at hs
  refine ⟨h'.1, h'.2.1, by rw [List.length_set]; exact h.2.2.1, fun j w hj hw => ?_⟩
  by_cases hji : j = i
  · subst hji
    rw [List.getElem?_set_self hs.1] at hj
    cases hj
    exact h'.2.2 (j, pm_vl b B v) List.mem_cons_self
  · rw [List.getElem?_set_ne (Ne.symm hji)] at hj
    refine h'.2.2 (j, pm_vl b B w) (List.mem_cons_of_mem _ (List.mem_filter.mpr ⟨pm_lvs_mem.mpr ⟨w, hj, hw, rfl⟩, ?_⟩))
    have e1 : (j == i) = false := by simp [hji]
    simp only [e1, Bool.not_false, Bool.true_and, Bool.not_eq_true', Bool.and_eq_false_iff]
    by_cases hc : j + 1 = i
    · right
      rcases hs.2 with h0 | h0
      · omega
      · subst hc
        have hg : (ls.getD (j + 1 - 1) (9, 0)) = w := by rw [Nat.add_sub_cancel, List.getD_eq_getElem?_getD, hj]; rfl
        rw [hg] at h0
        rw [pm_cat_eq]
        simp [pm_cat, h0]
    · left
      simp [hc]
theorem pm_L.set2 {b B : Nat} {ls : List pm_V} {lv : Array Slot} {n i : Nat} {v : pm_V} (h : pm_L b B ls lv n) (hs : pm_s2 ls i = true) {lv' : Array Slot}
    (h' : lv_has lv' n ((i, pm_vl b B v) :: (pm_lvs b B ls).filter (fun q => !(q.1 == i) && (!(q.1 == i + 1) && !(q.1 + 1 == i && q.2.category == 2))))) : pm_L b B ((ls.set i v).set (i + 1) (9, 0)) lv' n := by
  unfold pm_s2 at hs
  simp only [Bool.and_eq_true, Bool.or_eq_true, decide_eq_true_eq] at hs
  refine ⟨h'.1, h'.2.1, by rw [List.length_set, List.length_set]; exact h.2.2.1, fun j w hj hw => ?_⟩
  by_cases hj1 : j = i + 1
  · subst hj1
    rw [List.getElem?_set_self (by rw [List.length_set]; exact hs.1)] at hj
    cases hj
    exact absurd rfl hw
  rw [List.getElem?_set_ne (Ne.symm hj1)] at hj
  by_cases hji : j = i
  · subst hji
    rw [List.getElem?_set_self (by omega)] at hj
    cases hj
    exact h'.2.2 (j, pm_vl b B v) List.mem_cons_self
  · rw [List.getElem?_set_ne (Ne.symm hji)] at hj
    refine h'.2.2 (j, pm_vl b B w) (List.mem_cons_of_mem _ (List.mem_filter.mpr ⟨pm_lvs_mem.mpr ⟨w, hj, hw, rfl⟩, ?_⟩))
    have e1 : (j == i) = false := by simp [hji]
    have e2 : (j == i + 1) = false := by simp [hj1]
    simp only [e1, e2, Bool.not_false, Bool.true_and, Bool.not_eq_true', Bool.and_eq_false_iff]
    by_cases hc : j + 1 = i
    · right
      rcases hs.2 with h0 | h0
      · omega
      · subst hc
        have hg : (ls.getD (j + 1 - 1) (9, 0)) = w := by rw [Nat.add_sub_cancel, List.getD_eq_getElem?_getD, hj]; rfl
        rw [hg] at h0
        rw [pm_cat_eq]
        simp [pm_cat, h0]
    · left
      simp [hc]
/-- at a method's entry -/
theorem pm_sl (b B : Nat) (vs : List pm_V) : (lg_sl (vs.map (pm_vl b B))).length = (pm_fl vs).length := by
  induction vs with
  | nil => rfl
  | cons v r ih =>
    rw [List.map_cons]
    unfold lg_sl at ih ⊢
    rw [List.flatMap_cons, List.length_append, ih, pm_cat_eq]
    rw [show pm_fl (v :: r) = if v.1 = 1 then v :: (9, 0) :: pm_fl r else v :: pm_fl r from rfl]
    unfold pm_cat
    by_cases hv : v.1 = 1
    · simp only [if_pos hv, List.length_cons, List.length_nil]; simp only [if_true, List.length_cons, List.length_nil]; omega
    · simp only [if_neg hv, List.length_cons, List.length_nil]; simp; omega
theorem pm_args {b B : Nat} (vs : List pm_V) : ∀ (k i : Nat) (v : pm_V), (pm_fl vs)[i]? = some v → v.1 ≠ 9 → (k + i, pm_vl b B v) ∈ lv_args k (vs.map (pm_vl b B)) := by
  induction vs with
  | nil => intro k i v h; simp [pm_fl] at h
  | cons w r ih =>
    intro k i v h h9
    rw [List.map_cons]
    unfold lv_args
    rw [pm_cat_eq]
    unfold pm_fl at h
    by_cases hw : w.1 = 1
    · rw [if_pos hw] at h
      have hc : pm_cat w = 2 := by simp [pm_cat, hw]
      rw [if_pos hc]
      match i, h with
      | 0, h => simp at h; subst h; exact List.mem_cons_self
      | 1, h => simp at h; subst h; exact absurd rfl h9
      | i + 2, h =>
        have := ih (k + 2) i v (by simpa using h) h9
        rw [show k + (i + 2) = k + 2 + i by omega]
        exact List.mem_cons_of_mem _ this
    · rw [if_neg hw] at h
      have hc : ¬ pm_cat w = 2 := by simp [pm_cat, hw]
      rw [if_neg hc]
      match i, h with
      | 0, h => simp at h; subst h; exact List.mem_cons_self
      | i + 1, h =>
        have := ih (k + 1) i v (by simpa using h) h9
        rw [show k + (i + 1) = k + 1 + i by omega]
        exact List.mem_cons_of_mem _ this
theorem pm_L.entry (b B : Nat) (vs : List pm_V) {n : Nat} (h : (pm_fl vs).length ≤ n) : pm_L b B (pm_en vs n) ((lg_sl (vs.map (pm_vl b B)) ++ List.replicate (n - (lg_sl (vs.map (pm_vl b B))).length) Slot.unset).toArray) n := by
  have hl := lv_entry (vs.map (pm_vl b B)) (n := n) (by rw [pm_sl]; exact h)
  refine ⟨hl.1, hl.2.1, by unfold pm_en; simp; omega, fun i v hi hv => ?_⟩
  unfold pm_en at hi
  by_cases hlt : i < (pm_fl vs).length
  · rw [List.getElem?_append_left hlt] at hi
    have := pm_args (b := b) (B := B) vs 0 i v hi hv
    rw [Nat.zero_add] at this
    exact hl.2.2 _ this
  · rw [List.getElem?_append_right (by omega), List.getElem?_replicate] at hi
    split at hi
    · cases hi; exact absurd rfl hv
    · cases hi
theorem pm_tb_in {a : Int} {k : Int → Prop} {dflt : Int} : ∀ (os : List Int) (lo : Int), pm_tb a k dflt lo os → (∀ (j : Nat) (o : Int), os[j]? = some o → a = lo + j → k o) ∧ ((a < lo ∨ lo + os.length ≤ a) → k dflt) := by
  intro os
  induction os with
  | nil => intro lo h; exact ⟨fun j o hj => by simp at hj, fun _ => h⟩
  | cons o os ih =>
    intro lo h
    unfold pm_tb at h
    obtain ⟨h1, h2⟩ := h
    refine ⟨fun j o' hj he => ?_, fun hd => ?_⟩
    · match j, hj with
      | 0, hj => simp at hj; subst hj; exact h1 (by simpa using he)
      | j + 1, hj =>
        have hne : ¬ a = lo := by omega
        exact (ih (lo + 1) (h2 hne)).1 j o' (by simpa using hj) (by push_cast at he; omega)
    · have hne : ¬ a = lo := by
        rcases hd with hd | hd
        · omega
        · simp at hd; omega
      refine (ih (lo + 1) (h2 hne)).2 ?_
      rcases hd with hd | hd
      · left; omega
      · right; simp at hd; omega
