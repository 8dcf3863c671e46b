/-! ===== trees told: the class's counts over nodes ===== -/
def CmAt (M : pm_M) (P : Nat) (T : Tab) (L : List Nd) (p : Nat → Nat) : Prop := ∀ k, k < L.length → pm_ct M (P + 5) k = ((CM T L p k).1 : Int) ∧ pm_ct M (P + 6) k = ((CM T L p k).2.1 : Int) ∧ pm_ct M (P + 7) k = ((CM T L p k).2.2.1 : Int) ∧ pm_ct M (P + 8) k = ((CM T L p k).2.2.2.1 : Int) ∧ pm_ct M (P + 9) k = ((CM T L p k).2.2.2.2.1 : Int) ∧ pm_ct M (P + 10) k = ((CM T L p k).2.2.2.2.2 : Int)
/-- a tree, its parents, its depths, as a text tells them -/
def TrX (L : List Nd) (p dp : Nat → Nat) : Prop := TrD L dp ∧ PaOK L p ∧ ∀ k, k < L.length → dp k ≤ 8 ∧ ((ndA L k).1 = 0 → (ndA L k).2.1 ≤ 9)
def TdAt (M : pm_M) (P : Nat) (T : Tab) (L : List Nd) (p dp : Nat → Nat) : Prop := TrX L p dp ∧ pm_ct M (P + 1) 3 = (L.length : Int) ∧ NdL M (P + 2) (P + 3) (P + 4) L ∧ CmAt M P T L p
def tLf (L : List Nd) : Nat := sm (fun k => if (ndA L k).1 = 0 then 1 else 0) L.length
def tId (T : Tab) (L : List Nd) (p : Nat → Nat) : Nat := sm (fun k => if idl (CM T L p k) then 1 else 0) L.length
theorem sm_31 {f : Nat → Nat} {b : Nat} (h : ∀ i, f i ≤ b) : ∀ n, sm f n ≤ b * n
  | 0 => Nat.zero_le _
  | n + 1 => by
    show sm f n + f n ≤ _
    have := sm_31 h n
    have := h n
    rw [Nat.mul_add]
    omega
theorem nA_idl {T : Tab} {e : Dt} (h : idl e) : nA T e.1 e.2.1 = 0 := sm_z _ (fun r _ => sm_z _ (fun c _ => by
  unfold da
  rcases h with q | q <;> rw [q, Nat.zero_testBit] <;> simp))
theorem nU_idl {T : Tab} {e : Dt} {v : Nat} (h : idl e) : nU T e.1 e.2.1 v = 0 := sm_z _ (fun r _ => sm_z _ (fun c _ => by
  unfold du
  rcases h with q | q <;> rw [q, Nat.zero_testBit] <;> simp))
theorem tSum_eq2 {T : Tab} {L : List Nd} {p dp : Nat → Nat} (hT : TabOK T) (hD : TrD L dp) (h : PaOK L p) : sm (fun k => if (ndA L k).1 = 0 ∧ ¬ idl (CM T L p k) then (CM T L p k).2.2.2.1 * nA T (CM T L p k).1 (CM T L p k).2.1 else 0) L.length = tSum T L := by
  rw [← tSum_eq hT hD h]
  refine sm_congr (fun k _ => ?_)
  by_cases q : (ndA L k).1 = 0
  · by_cases w : idl (CM T L p k)
    · rw [if_neg (fun z => z.2 w), if_pos q, nA_idl w, Nat.mul_zero]
    · rw [if_pos ⟨q, w⟩, if_pos q]
  · rw [if_neg (fun z => q z.1), if_neg q]
theorem tWro_eq2 {T : Tab} {L : List Nd} {p dp : Nat → Nat} (hT : TabOK T) (hD : TrD L dp) (h : PaOK L p) (d : Nat) : sm (fun k => if ((ndA L k).1 = 0 ∧ ¬ idl (CM T L p k)) ∧ (CM T L p k).2.2.1 < d then nU T (CM T L p k).1 (CM T L p k).2.1 (ndA L k).2.1 else 0) L.length = tWro T L d := by
  rw [← tWro_eq hT hD h]
  refine sm_congr (fun k _ => ?_)
  by_cases q : (ndA L k).1 = 0 ∧ (CM T L p k).2.2.1 < d
  · by_cases w : idl (CM T L p k)
    · rw [if_neg (fun z => z.1.2 w), if_pos q, nU_idl w]
    · rw [if_pos ⟨⟨q.1, w⟩, q.2⟩, if_pos q]
  · rw [if_neg (fun z => q ⟨z.1.1, z.2⟩), if_neg q]
/-- what was worked out already costs nothing -/
theorem c_Best_solve0s {d mc ms : Nat} {M : pm_M} (lay0 : Lay M) {T : Tab} {w : Nat} (hB0 : CB M T 0 98 w 1) :
    pm_E d 12 [(2, ((98 : Nat) : Int))] M mc ms (fun ρ M' => ρ = none ∧ M' = M) := by
  have i5 := hB0.2.2.1
  have i5' : pm_ct M 98 5 = 1 := i5
  show Wp d 12 0 [(2, ((98 : Nat) : Int)), (9, 0), (9, 0), (9, 0), (9, 0), (9, 0)] [] M mc ms _
  refine g_aload_n lk_12_0 rfl ?_
  refine m_getfield (u := []) (M := M) lk_12_1 rfl (lay0.on (by decide) rfl) (v := 1) i5' ?_
  refine g_if (t := 8) lk_12_4 rfl (by first | (unfold pm_inI; omega) | exact pm_and_in _ _ | exact pm_shr_in _ _ | exact pm_or_in _ _ | exact pm_xor_in _ _ | exact pm_shl_in _ _ | exact pm_cmp_in _ _ | exact pm_b8_in _ | (unfold pm_inI; split <;> omega)) (fun h => absurd h (show ¬ ((1 : Int) = (0 : Int)) by omega)) (fun _ => ?_)
  refine g_return lk_12_7 ?_
  exact ⟨rfl, rfl⟩
theorem c_Best_worthOf0s {d mc ms : Nat} {M : pm_M} (lay0 : Lay M) {T : Tab} (hT : TabOK T) (hM : TbAt M 24 T) {w : Nat} (hB0 : CB M T 0 98 w 1) {rs cs : Nat} (r1 : 1 ≤ rs) (r2 : rs < 2 ^ tR T) (c1 : 1 ≤ cs) (c2 : cs < 2 ^ tC T) :
    pm_E (d + 1) 11 [(2, ((98 : Nat) : Int)), (0, (rs : Int)), (0, (cs : Int))] M mc ms (fun ρ M' => ρ = some (0, (BW T 0 rs cs : Int)) ∧ M' = M) := by
  have r64 := lt_64_of hT.1.2 r2
  have z4 := siz_le hT
  have nl := num_lt (T := T) r2 c2
  have so := c_Best_solve0s (d := d) (mc := 0) (ms := 0) lay0 hB0
  obtain ⟨hw, i4, i5, i2, _, n, n4, hay, hf⟩ := hB0
  obtain ⟨hn, hwo⟩ := hf rfl
  have rd := hwo rs cs r1 r2 c1 c2
  show Wp (d + 1) 11 0 [(2, ((98 : Nat) : Int)), (0, (rs : Int)), (0, (cs : Int)), (9, 0)] [] M mc ms _
  refine g_aload_n lk_11_0 rfl ?_
  refine g_virtual (p := 98) (Qc := _) lk_11_1 rfl (Nat.le_of_ble_eq_true rfl) rfl rfl (lay0.on (by decide) rfl) (Nat.le_of_ble_eq_true rfl) (Nat.le_of_ble_eq_true rfl) (Nat.zero_le _) (Nat.zero_le _) (so) ?_
  rintro _ K1 ⟨rfl, eK⟩
  rw [eK]
  show Wp _ 11 4 [(2, ((98 : Nat) : Int)), (0, (rs : Int)), (0, (cs : Int)), (9, 0)] [] M _ _ _
  refine g_aload_n lk_11_4 rfl ?_
  refine g_getfield lk_11_5 rfl (lay0.on (by decide) rfl) (v := ((44 : Nat) : Int)) (lay0.rf rfl) ?_
  refine g_iload_n lk_11_8 rfl ?_
  refine g_iload_n lk_11_9 rfl ?_
  refine g_virtual (p := 44) (Qc := _) lk_11_10 rfl (Nat.le_of_ble_eq_true rfl) rfl rfl (lay0.on (by decide) rfl) (Nat.le_of_ble_eq_true rfl) (Nat.le_of_ble_eq_true rfl) (Nat.zero_le _) (Nat.zero_le _) (c_Areas_numberOf lay0 hT hM (by omega) (by omega)) ?_
  rintro _ N1 ⟨rfl, hN1⟩
  rw [hN1]
  show Wp _ 11 13 [(2, ((98 : Nat) : Int)), (0, (rs : Int)), (0, (cs : Int)), (9, 0)] [(0, (num T rs cs : Int))] M _ _ _
  refine g_istore_n (ls' := [(2, ((98 : Nat) : Int)), (0, (rs : Int)), (0, (cs : Int)), (0, (num T rs cs : Int))]) lk_11_13 rfl rfl ?_
  refine g_iload_n lk_11_14 rfl ?_
  refine g_if (t := 36) lk_11_15 rfl (by first | (unfold pm_inI; omega) | exact pm_and_in _ _ | exact pm_shr_in _ _ | exact pm_or_in _ _ | exact pm_xor_in _ _ | exact pm_shl_in _ _ | exact pm_cmp_in _ _ | exact pm_b8_in _ | (unfold pm_inI; split <;> omega)) (fun h2 => ?_) (fun h2 => ?_)
  · replace h2 : (num T rs cs : Int) < 0 := h2
    omega
  · replace h2 : ¬ ((num T rs cs : Int) < 0) := h2
    refine g_iload_n lk_11_18 rfl ?_
    refine g_aload_n lk_11_19 rfl ?_
    refine m_getfield (u := []) (M := M) lk_11_20 rfl (lay0.on (by decide) rfl) (v := ((w : Nat) : Int)) i4 ?_
    refine g_arraylength (n := n) lk_11_23 (by decide) hay ?_
    refine g_icmp (t := 36) lk_11_24 rfl (by first | (unfold pm_inI; omega) | exact pm_and_in _ _ | exact pm_shr_in _ _ | exact pm_or_in _ _ | exact pm_xor_in _ _ | exact pm_shl_in _ _ | exact pm_cmp_in _ _ | exact pm_b8_in _ | (unfold pm_inI; split <;> omega)) (by first | (unfold pm_inI; omega) | exact pm_and_in _ _ | exact pm_shr_in _ _ | exact pm_or_in _ _ | exact pm_xor_in _ _ | exact pm_shl_in _ _ | exact pm_cmp_in _ _ | exact pm_b8_in _ | (unfold pm_inI; split <;> omega)) (fun h3 => ?_) (fun h3 => ?_)
    · replace h3 : ((n : Nat) : Int) ≤ (num T rs cs : Int) := h3
      omega
    · replace h3 : ¬ (((n : Nat) : Int) ≤ (num T rs cs : Int)) := h3
      refine g_aload_n lk_11_27 rfl ?_
      refine m_getfield (u := []) (M := M) lk_11_28 rfl (lay0.on (by decide) rfl) (v := ((w : Nat) : Int)) i4 ?_
      refine g_iload_n lk_11_31 rfl ?_
      refine g_iaload lk_11_32 hay (by omega) (v := (BW T 0 rs cs : Int)) rd ?_
      refine g_goto (t := 37) lk_11_33 rfl ?_
      refine g_ireturn lk_11_37 (fun h => absurd h (by decide)) ?_
      exact ⟨rfl, rfl⟩
theorem td_out {s w a : Nat} (hs : own s) (hw : own w) (h1 : 54 ≤ a) (h2 : a ≤ 97) : a ∉ [44, s, 98, w] := by
  unfold own at hs hw
  intro h
  simp only [List.mem_cons, List.not_mem_nil, or_false] at h
  omega
theorem TdAt.gr {S : List Nat} {M N : pm_M} {P : Nat} {T : Tab} {L : List Nd} {p dp : Nat → Nat} (h : TdAt M P T L p dp) (k : Gr S M N) (m : 157 ≤ M.1) (hP : 54 ≤ P) (hP2 : P + 10 ≤ 97) (hS : ∀ a, 54 ≤ a → a ≤ 97 → a ∉ S) : TdAt N P T L p dp := by
  unfold TdAt NdL CmAt at h ⊢
  rw [k.ct (by omega) (hS (P + 1) (by omega) (by omega)), k.ct (by omega) (hS (P + 2) (by omega) (by omega)), k.ct (by omega) (hS (P + 3) (by omega) (by omega)), k.ct (by omega) (hS (P + 4) (by omega) (by omega)), k.ct (by omega) (hS (P + 5) (by omega) (by omega)), k.ct (by omega) (hS (P + 6) (by omega) (by omega)), k.ct (by omega) (hS (P + 7) (by omega) (by omega)), k.ct (by omega) (hS (P + 8) (by omega) (by omega)), k.ct (by omega) (hS (P + 9) (by omega) (by omega)), k.ct (by omega) (hS (P + 10) (by omega) (by omega))]
  exact h
/-- the areas and the first best trees, as a call leaves them that may have worked them out -/
def Wk (M N : pm_M) (T : Tab) (s fa w f : Nat) : Prop := Lay N ∧ TbAt N 24 T ∧ ∃ s' fa' w' f', CA N T s' fa' ∧ CB N T 0 98 w' f' ∧ (f' = 1 → fa' = 1) ∧ (f = 1 → f' = 1) ∧ (fa = 1 → fa' = 1) ∧ (s' = s ∨ M.1 ≤ s') ∧ (w' = w ∨ M.1 ≤ w') ∧ s' ≠ w' ∧ Gr [44, s, 98, w] M N ∧ pm_ct N 98 6 = pm_ct M 98 6
theorem Gr.tr2 {S S' : List Nat} {M N P : pm_M} (h : Gr S M N) (k : Gr S' N P) (hs : ∀ a, a ∈ S' → a ∈ S ∨ M.1 ≤ a) : Gr S M P :=
  ⟨Nat.le_trans h.1 k.1, fun a ha => ⟨(k.2.1 a (Nat.lt_of_lt_of_le ha h.1)).1.trans (h.2.1 a ha).1, (k.2.1 a (Nat.lt_of_lt_of_le ha h.1)).2.trans (h.2.1 a ha).2⟩, fun a ha q => (k.2.2 a (Nat.lt_of_lt_of_le ha h.1) (fun c => by rcases hs a c with e | e; exact q e; omega)).trans (h.2.2 a ha q)⟩
theorem c_Told_isIdle0 {d mc ms : Nat} {M : pm_M} (lay : Lay M) {T : Tab} (hT : TabOK T) {L : List Nd} {p dp : Nat → Nat} (hX : TdAt M 54 T L p dp) {k : Nat} (hk : k < L.length) :
    pm_E d 101 [(2, ((54 : Nat) : Int)), (0, (k : Int))] M mc ms (fun ρ M' => ρ = some (0, if idl (CM T L p k) then 1 else 0) ∧ M' = M) := by
  obtain ⟨⟨hD, hp, hx⟩, hct, hL, hC⟩ := hX
  obtain ⟨b1, b2, _, _, _, _⟩ := CM_bd hT hD hp _ _ (Nat.lt_succ_self _) hk
  have r6 := lt_64_of hT.1.2 b1
  have c6 := lt_64_of hT.2.1.2 b2
  obtain ⟨c1, c2, _⟩ := hC k hk
  have l31 := hD.2.1
  obtain ⟨e, he⟩ : ∃ e, e = CM T L p k := ⟨_, rfl⟩
  rw [← he] at r6 c6 c1 c2 ⊢
  show Wp d 101 0 [(2, ((54 : Nat) : Int)), (0, (k : Int))] [] M mc ms _
  refine g_aload_n lk_101_0 rfl ?_
  refine g_getfield lk_101_1 rfl (lay.on (by decide) rfl) (v := ((59 : Nat) : Int)) (lay.rf rfl) ?_
  refine g_iload_n lk_101_4 rfl ?_
  refine m_iaload (u := []) (M := M) lk_101_5 (lay.ay (by decide) rfl) (by omega) (j := k) (by omega) (v := (e.1 : Int)) c1 ?_
  refine g_if (t := 18) lk_101_6 rfl (by first | (unfold pm_inI; omega) | exact pm_and_in _ _ | exact pm_shr_in _ _ | exact pm_or_in _ _ | exact pm_xor_in _ _ | exact pm_shl_in _ _ | exact pm_cmp_in _ _ | exact pm_b8_in _ | (unfold pm_inI; split <;> omega)) (fun h1 => ?_) (fun h1 => ?_)
  · replace h1 : (e.1 : Int) = 0 := h1
    refine g_iconst lk_101_18 ?_
    refine g_goto (t := 23) lk_101_19 rfl ?_
    refine g_ireturn lk_101_23 (fun _ => by omega) ?_
    exact ⟨by rw [if_pos (Or.inl (by omega))], rfl⟩
  · replace h1 : ¬ ((e.1 : Int) = 0) := h1
    refine g_aload_n lk_101_9 rfl ?_
    refine g_getfield lk_101_10 rfl (lay.on (by decide) rfl) (v := ((60 : Nat) : Int)) (lay.rf rfl) ?_
    refine g_iload_n lk_101_13 rfl ?_
    refine m_iaload (u := []) (M := M) lk_101_14 (lay.ay (by decide) rfl) (by omega) (j := k) (by omega) (v := (e.2.1 : Int)) c2 ?_
    refine g_if (t := 22) lk_101_15 rfl (by first | (unfold pm_inI; omega) | exact pm_and_in _ _ | exact pm_shr_in _ _ | exact pm_or_in _ _ | exact pm_xor_in _ _ | exact pm_shl_in _ _ | exact pm_cmp_in _ _ | exact pm_b8_in _ | (unfold pm_inI; split <;> omega)) (fun h2 => ?_) (fun h2 => ?_)
    · replace h2 : ¬ (e.2.1 : Int) = 0 := h2
      refine g_iconst lk_101_22 ?_
      refine g_ireturn lk_101_23 (fun _ => by omega) ?_
      exact ⟨by rw [if_neg (by omega)], rfl⟩
    · replace h2 : ¬ (¬ (e.2.1 : Int) = 0) := h2
      refine g_iconst lk_101_18 ?_
      refine g_goto (t := 23) lk_101_19 rfl ?_
      refine g_ireturn lk_101_23 (fun _ => by omega) ?_
      exact ⟨by rw [if_pos (Or.inr (by omega))], rfl⟩
theorem c_Told_isUsedLeaf0 {d mc ms : Nat} {M : pm_M} (lay : Lay M) {T : Tab} (hT : TabOK T) {L : List Nd} {p dp : Nat → Nat} (hX : TdAt M 54 T L p dp) {k : Nat} (hk : k < L.length) :
    pm_E (d + 1) 102 [(2, ((54 : Nat) : Int)), (0, (k : Int))] M mc ms (fun ρ M' => ρ = some (0, if (ndA L k).1 = 0 ∧ ¬ idl (CM T L p k) then 1 else 0) ∧ M' = M) := by
  have id0 := c_Told_isIdle0 (d := d) (mc := 0) (ms := 0) lay hT hX hk
  obtain ⟨⟨hD, hp, hx⟩, hct, hL, hC⟩ := hX
  have xx := (hL k _ (ndA_get hk)).1
  have a1 := (hD.2.2.2 k hk).1
  have l31 := hD.2.1
  obtain ⟨x, hx⟩ : ∃ x, x = (ndA L k).1 := ⟨_, rfl⟩
  rw [← hx] at xx a1 ⊢
  show Wp (d + 1) 102 0 [(2, ((54 : Nat) : Int)), (0, (k : Int))] [] M mc ms _
  by_cases q : idl (CM T L p k)
  · rw [if_pos q] at id0
    refine g_aload_n lk_102_0 rfl ?_
    refine g_getfield lk_102_1 rfl (lay.on (by decide) rfl) (v := ((55 : Nat) : Int)) (lay.rf rfl) ?_
    refine g_getfield lk_102_4 rfl (lay.on (by decide) rfl) (v := ((56 : Nat) : Int)) (lay.rf rfl) ?_
    refine g_iload_n lk_102_7 rfl ?_
    refine m_iaload (u := []) (M := M) lk_102_8 (lay.ay (by decide) rfl) (by omega) (j := k) (by omega) (v := (x : Int)) xx ?_
    refine g_if (t := 24) lk_102_9 rfl (by first | (unfold pm_inI; omega) | exact pm_and_in _ _ | exact pm_shr_in _ _ | exact pm_or_in _ _ | exact pm_xor_in _ _ | exact pm_shl_in _ _ | exact pm_cmp_in _ _ | exact pm_b8_in _ | (unfold pm_inI; split <;> omega)) (fun h1 => ?_) (fun h1 => ?_)
    · replace h1 : ¬ (x : Int) = 0 := h1
      refine g_iconst lk_102_24 ?_
      refine g_ireturn lk_102_25 (fun _ => by omega) ?_
      exact ⟨by rw [if_neg (fun w => w.2 q)], rfl⟩
    · replace h1 : ¬ (¬ (x : Int) = 0) := h1
      refine g_aload_n lk_102_12 rfl ?_
      refine g_iload_n lk_102_13 rfl ?_
      refine g_virtual (p := 54) (Qc := _) lk_102_14 rfl (Nat.le_of_ble_eq_true rfl) rfl rfl (lay.on (by decide) rfl) (Nat.le_of_ble_eq_true rfl) (Nat.le_of_ble_eq_true rfl) (Nat.zero_le _) (Nat.zero_le _) (id0) ?_
      rintro _ N2 ⟨rfl, hN2⟩
      rw [hN2]
      show Wp _ 102 17 [(2, ((54 : Nat) : Int)), (0, (k : Int))] [(0, 1)] M _ _ _
      refine g_if (t := 24) lk_102_17 rfl (by first | (unfold pm_inI; omega) | exact pm_and_in _ _ | exact pm_shr_in _ _ | exact pm_or_in _ _ | exact pm_xor_in _ _ | exact pm_shl_in _ _ | exact pm_cmp_in _ _ | exact pm_b8_in _ | (unfold pm_inI; split <;> omega)) (fun _ => ?_) (fun h => absurd (show ¬ (1 : Int) = (0 : Int) by omega) h)
      refine g_iconst lk_102_24 ?_
      refine g_ireturn lk_102_25 (fun _ => by omega) ?_
      exact ⟨by rw [if_neg (fun w => w.2 q)], rfl⟩
  · rw [if_neg q] at id0
    refine g_aload_n lk_102_0 rfl ?_
    refine g_getfield lk_102_1 rfl (lay.on (by decide) rfl) (v := ((55 : Nat) : Int)) (lay.rf rfl) ?_
    refine g_getfield lk_102_4 rfl (lay.on (by decide) rfl) (v := ((56 : Nat) : Int)) (lay.rf rfl) ?_
    refine g_iload_n lk_102_7 rfl ?_
    refine m_iaload (u := []) (M := M) lk_102_8 (lay.ay (by decide) rfl) (by omega) (j := k) (by omega) (v := (x : Int)) xx ?_
    refine g_if (t := 24) lk_102_9 rfl (by first | (unfold pm_inI; omega) | exact pm_and_in _ _ | exact pm_shr_in _ _ | exact pm_or_in _ _ | exact pm_xor_in _ _ | exact pm_shl_in _ _ | exact pm_cmp_in _ _ | exact pm_b8_in _ | (unfold pm_inI; split <;> omega)) (fun h1 => ?_) (fun h1 => ?_)
    · replace h1 : ¬ (x : Int) = 0 := h1
      refine g_iconst lk_102_24 ?_
      refine g_ireturn lk_102_25 (fun _ => by omega) ?_
      exact ⟨by rw [if_neg (fun w => absurd w.1 (by omega))], rfl⟩
    · replace h1 : ¬ (¬ (x : Int) = 0) := h1
      refine g_aload_n lk_102_12 rfl ?_
      refine g_iload_n lk_102_13 rfl ?_
      refine g_virtual (p := 54) (Qc := _) lk_102_14 rfl (Nat.le_of_ble_eq_true rfl) rfl rfl (lay.on (by decide) rfl) (Nat.le_of_ble_eq_true rfl) (Nat.le_of_ble_eq_true rfl) (Nat.zero_le _) (Nat.zero_le _) (id0) ?_
      rintro _ N2 ⟨rfl, hN2⟩
      rw [hN2]
      show Wp _ 102 17 [(2, ((54 : Nat) : Int)), (0, (k : Int))] [(0, 0)] M _ _ _
      refine g_if (t := 24) lk_102_17 rfl (by first | (unfold pm_inI; omega) | exact pm_and_in _ _ | exact pm_shr_in _ _ | exact pm_or_in _ _ | exact pm_xor_in _ _ | exact pm_shl_in _ _ | exact pm_cmp_in _ _ | exact pm_b8_in _ | (unfold pm_inI; split <;> omega)) (fun h => absurd h (show ¬ (¬ (0 : Int) = (0 : Int)) by omega)) (fun _ => ?_)
      refine g_iconst lk_102_20 ?_
      refine g_goto (t := 25) lk_102_21 rfl ?_
      refine g_ireturn lk_102_25 (fun _ => by omega) ?_
      exact ⟨by rw [if_pos ⟨by omega, q⟩], rfl⟩
theorem c_Told_leafCount0 {d mc ms : Nat} {M : pm_M} (lay : Lay M) {T : Tab} {L : List Nd} {p dp : Nat → Nat} (hX : TdAt M 54 T L p dp) :
    pm_E d 107 [(2, ((54 : Nat) : Int))] M mc ms (fun ρ M' => ρ = some (0, (tLf L : Int)) ∧ M' = M) := by
  obtain ⟨Q, hQ⟩ : ∃ Q : pm_Q, Q = (fun ρ M' => ρ = some (0, (tLf L : Int)) ∧ M' = M) := ⟨_, rfl⟩
  rw [← hQ]
  obtain ⟨⟨hD, hp, hx⟩, hct, hL, hC⟩ := hX
  have l31 := hD.2.1
  obtain ⟨f, hf⟩ : ∃ f : Nat → Nat, f = fun k => if (ndA L k).1 = 0 then 1 else 0 := ⟨_, rfl⟩
  obtain ⟨l, hl⟩ : ∃ l, l = L.length := ⟨_, rfl⟩
  rw [← hl] at hct l31
  have loop : ∀ (n i : Nat), i + n = l → Wp d 107 4 [(2, ((54 : Nat) : Int)), (0, ((sm f i : Nat) : Int)), (0, (i : Int))] [] M mc ms Q := by
    intro n
    induction n with
    | zero =>
      intro i hi
      have e : i = l := by omega
      subst e
      refine g_iload_n lk_107_4 rfl ?_
      refine g_aload_n lk_107_5 rfl ?_
      refine g_getfield lk_107_6 rfl (lay.on (by decide) rfl) (v := ((55 : Nat) : Int)) (lay.rf rfl) ?_
      refine m_getfield (u := []) (M := M) lk_107_9 rfl (lay.on (by decide) rfl) (v := (i : Int)) hct ?_
      refine g_icmp (t := 41) lk_107_12 rfl (by first | (unfold pm_inI; omega) | exact pm_and_in _ _ | exact pm_shr_in _ _ | exact pm_or_in _ _ | exact pm_xor_in _ _ | exact pm_shl_in _ _ | exact pm_cmp_in _ _ | exact pm_b8_in _ | (unfold pm_inI; split <;> omega)) (by first | (unfold pm_inI; omega) | exact pm_and_in _ _ | exact pm_shr_in _ _ | exact pm_or_in _ _ | exact pm_xor_in _ _ | exact pm_shl_in _ _ | exact pm_cmp_in _ _ | exact pm_b8_in _ | (unfold pm_inI; split <;> omega)) (fun h1 => ?_) (fun h1 => ?_)
      · replace h1 : (i : Int) ≤ (i : Int) := h1
        refine g_iload_n lk_107_41 rfl ?_
        refine g_ireturn lk_107_42 (fun h => absurd h (by decide)) ?_
        rw [hQ]
        exact ⟨by unfold tLf; rw [← hl, hf], rfl⟩
      · replace h1 : ¬ ((i : Int) ≤ (i : Int)) := h1
        omega
    | succ n ih =>
      intro i hi
      have hk : i < L.length := by omega
      have xx := (hL i _ (ndA_get hk)).1
      have a1 := (hD.2.2.2 i hk).1
      have fi : f i = if (ndA L i).1 = 0 then 1 else 0 := by rw [hf]
      obtain ⟨x, hx⟩ : ∃ x, x = (ndA L i).1 := ⟨_, rfl⟩
      rw [← hx] at xx a1 fi
      have go : ∀ z : Int, z = ((sm f i + f i : Nat) : Int) → Wp d 107 4 [(2, ((54 : Nat) : Int)), (0, z), (0, (i : Int) + 1)] [] M mc ms Q := fun z hz => by
        rw [hz]; exact ih (i + 1) (by omega)
      refine g_iload_n lk_107_4 rfl ?_
      refine g_aload_n lk_107_5 rfl ?_
      refine g_getfield lk_107_6 rfl (lay.on (by decide) rfl) (v := ((55 : Nat) : Int)) (lay.rf rfl) ?_
      refine m_getfield (u := []) (M := M) lk_107_9 rfl (lay.on (by decide) rfl) (v := (l : Int)) hct ?_
      refine g_icmp (t := 41) lk_107_12 rfl (by first | (unfold pm_inI; omega) | exact pm_and_in _ _ | exact pm_shr_in _ _ | exact pm_or_in _ _ | exact pm_xor_in _ _ | exact pm_shl_in _ _ | exact pm_cmp_in _ _ | exact pm_b8_in _ | (unfold pm_inI; split <;> omega)) (by first | (unfold pm_inI; omega) | exact pm_and_in _ _ | exact pm_shr_in _ _ | exact pm_or_in _ _ | exact pm_xor_in _ _ | exact pm_shl_in _ _ | exact pm_cmp_in _ _ | exact pm_b8_in _ | (unfold pm_inI; split <;> omega)) (fun h1 => ?_) (fun h1 => ?_)
      · replace h1 : (l : Int) ≤ (i : Int) := h1
        omega
      · replace h1 : ¬ ((l : Int) ≤ (i : Int)) := h1
        refine g_iload_n lk_107_15 rfl ?_
        refine g_aload_n lk_107_16 rfl ?_
        refine g_getfield lk_107_17 rfl (lay.on (by decide) rfl) (v := ((55 : Nat) : Int)) (lay.rf rfl) ?_
        refine g_getfield lk_107_20 rfl (lay.on (by decide) rfl) (v := ((56 : Nat) : Int)) (lay.rf rfl) ?_
        refine g_iload_n lk_107_23 rfl ?_
        refine m_iaload (u := []) (M := M) lk_107_24 (lay.ay (by decide) rfl) (by omega) (j := i) (by omega) (v := (x : Int)) xx ?_
        refine g_if (t := 32) lk_107_25 rfl (by first | (unfold pm_inI; omega) | exact pm_and_in _ _ | exact pm_shr_in _ _ | exact pm_or_in _ _ | exact pm_xor_in _ _ | exact pm_shl_in _ _ | exact pm_cmp_in _ _ | exact pm_b8_in _ | (unfold pm_inI; split <;> omega)) (fun h2 => ?_) (fun h2 => ?_)
        · replace h2 : ¬ (x : Int) = 0 := h2
          refine g_iconst lk_107_32 ?_
          refine g_iadd lk_107_33 ?_
          refine g_istore_n (ls' := [(2, ((54 : Nat) : Int)), (0, (((sm f i : Nat) : Int) + 0)), (0, (i : Int))]) lk_107_34 rfl rfl ?_
          refine g_iinc (ls' := [(2, ((54 : Nat) : Int)), (0, (((sm f i : Nat) : Int) + 0)), (0, ((i : Int) + 1))]) lk_107_35 rfl rfl rfl ?_
          refine g_goto (t := 4) lk_107_38 rfl ?_
          exact go _ (by rw [fi, if_neg (by omega)]; omega)
        · replace h2 : ¬ (¬ (x : Int) = 0) := h2
          refine g_iconst lk_107_28 ?_
          refine g_goto (t := 33) lk_107_29 rfl ?_
          refine g_iadd lk_107_33 ?_
          refine g_istore_n (ls' := [(2, ((54 : Nat) : Int)), (0, (((sm f i : Nat) : Int) + 1)), (0, (i : Int))]) lk_107_34 rfl rfl ?_
          refine g_iinc (ls' := [(2, ((54 : Nat) : Int)), (0, (((sm f i : Nat) : Int) + 1)), (0, ((i : Int) + 1))]) lk_107_35 rfl rfl rfl ?_
          refine g_goto (t := 4) lk_107_38 rfl ?_
          exact go _ (by rw [fi, if_pos (by omega)]; omega)
  show Wp d 107 0 [(2, ((54 : Nat) : Int)), (9, 0), (9, 0)] [] M mc ms Q
  refine g_iconst lk_107_0 ?_
  refine g_istore_n (ls' := [(2, ((54 : Nat) : Int)), (0, 0), (9, 0)]) lk_107_1 rfl rfl ?_
  refine g_iconst lk_107_2 ?_
  refine g_istore_n (ls' := [(2, ((54 : Nat) : Int)), (0, 0), (0, 0)]) lk_107_3 rfl rfl ?_
  exact loop l 0 (by omega)
theorem c_Told_idleCount0 {d mc ms : Nat} {M : pm_M} (lay : Lay M) {T : Tab} (hT : TabOK T) {L : List Nd} {p dp : Nat → Nat} (hX : TdAt M 54 T L p dp) :
    pm_E (d + 1) 108 [(2, ((54 : Nat) : Int))] M mc ms (fun ρ M' => ρ = some (0, (tId T L p : Int)) ∧ M' = M) := by
  obtain ⟨Q, hQ⟩ : ∃ Q : pm_Q, Q = (fun ρ M' => ρ = some (0, (tId T L p : Int)) ∧ M' = M) := ⟨_, rfl⟩
  rw [← hQ]
  have iu := fun k hk => c_Told_isIdle0 (d := d) (mc := 0) (ms := 0) lay hT hX (k := k) hk
  obtain ⟨⟨hD, hp, hx⟩, hct, hL, hC⟩ := hX
  have l31 := hD.2.1
  obtain ⟨f, hf⟩ : ∃ f : Nat → Nat, f = fun k => if idl (CM T L p k) then 1 else 0 := ⟨_, rfl⟩
  obtain ⟨l, hl⟩ : ∃ l, l = L.length := ⟨_, rfl⟩
  rw [← hl] at hct l31
  have loop : ∀ (n i : Nat), i + n = l → Wp (d + 1) 108 4 [(2, ((54 : Nat) : Int)), (0, ((sm f i : Nat) : Int)), (0, (i : Int))] [] M mc ms Q := by
    intro n
    induction n with
    | zero =>
      intro i hi
      have e : i = l := by omega
      subst e
      refine g_iload_n lk_108_4 rfl ?_
      refine g_aload_n lk_108_5 rfl ?_
      refine g_getfield lk_108_6 rfl (lay.on (by decide) rfl) (v := ((55 : Nat) : Int)) (lay.rf rfl) ?_
      refine m_getfield (u := []) (M := M) lk_108_9 rfl (lay.on (by decide) rfl) (v := (i : Int)) hct ?_
      refine g_icmp (t := 37) lk_108_12 rfl (by first | (unfold pm_inI; omega) | exact pm_and_in _ _ | exact pm_shr_in _ _ | exact pm_or_in _ _ | exact pm_xor_in _ _ | exact pm_shl_in _ _ | exact pm_cmp_in _ _ | exact pm_b8_in _ | (unfold pm_inI; split <;> omega)) (by first | (unfold pm_inI; omega) | exact pm_and_in _ _ | exact pm_shr_in _ _ | exact pm_or_in _ _ | exact pm_xor_in _ _ | exact pm_shl_in _ _ | exact pm_cmp_in _ _ | exact pm_b8_in _ | (unfold pm_inI; split <;> omega)) (fun h1 => ?_) (fun h1 => ?_)
      · replace h1 : (i : Int) ≤ (i : Int) := h1
        refine g_iload_n lk_108_37 rfl ?_
        refine g_ireturn lk_108_38 (fun h => absurd h (by decide)) ?_
        rw [hQ]
        exact ⟨by unfold tId; rw [← hl, hf], rfl⟩
      · replace h1 : ¬ ((i : Int) ≤ (i : Int)) := h1
        omega
    | succ n ih =>
      intro i hi
      have hk : i < L.length := by omega
      have u := iu i hk
      have fi : f i = if idl (CM T L p i) then 1 else 0 := by rw [hf]
      have go : ∀ z : Int, z = ((sm f i + f i : Nat) : Int) → Wp (d + 1) 108 4 [(2, ((54 : Nat) : Int)), (0, z), (0, (i : Int) + 1)] [] M mc ms Q := fun z hz => by
        rw [hz]; exact ih (i + 1) (by omega)
      by_cases q : idl (CM T L p i)
      · rw [if_pos q] at u fi
        refine g_iload_n lk_108_4 rfl ?_
        refine g_aload_n lk_108_5 rfl ?_
        refine g_getfield lk_108_6 rfl (lay.on (by decide) rfl) (v := ((55 : Nat) : Int)) (lay.rf rfl) ?_
        refine m_getfield (u := []) (M := M) lk_108_9 rfl (lay.on (by decide) rfl) (v := (l : Int)) hct ?_
        refine g_icmp (t := 37) lk_108_12 rfl (by first | (unfold pm_inI; omega) | exact pm_and_in _ _ | exact pm_shr_in _ _ | exact pm_or_in _ _ | exact pm_xor_in _ _ | exact pm_shl_in _ _ | exact pm_cmp_in _ _ | exact pm_b8_in _ | (unfold pm_inI; split <;> omega)) (by first | (unfold pm_inI; omega) | exact pm_and_in _ _ | exact pm_shr_in _ _ | exact pm_or_in _ _ | exact pm_xor_in _ _ | exact pm_shl_in _ _ | exact pm_cmp_in _ _ | exact pm_b8_in _ | (unfold pm_inI; split <;> omega)) (fun h1 => ?_) (fun h1 => ?_)
        · replace h1 : (l : Int) ≤ (i : Int) := h1
          omega
        · replace h1 : ¬ ((l : Int) ≤ (i : Int)) := h1
          refine g_iload_n lk_108_15 rfl ?_
          refine g_aload_n lk_108_16 rfl ?_
          refine g_iload_n lk_108_17 rfl ?_
          refine g_virtual (p := 54) (Qc := _) lk_108_18 rfl (Nat.le_of_ble_eq_true rfl) rfl rfl (lay.on (by decide) rfl) (Nat.le_of_ble_eq_true rfl) (Nat.le_of_ble_eq_true rfl) (Nat.zero_le _) (Nat.zero_le _) (u) ?_
          rintro _ N2 ⟨rfl, hN2⟩
          rw [hN2]
          show Wp _ 108 21 [(2, ((54 : Nat) : Int)), (0, ((sm f i : Nat) : Int)), (0, (i : Int))] [(0, 1), (0, ((sm f i : Nat) : Int))] M _ _ _
          refine g_if (t := 28) lk_108_21 rfl (by first | (unfold pm_inI; omega) | exact pm_and_in _ _ | exact pm_shr_in _ _ | exact pm_or_in _ _ | exact pm_xor_in _ _ | exact pm_shl_in _ _ | exact pm_cmp_in _ _ | exact pm_b8_in _ | (unfold pm_inI; split <;> omega)) (fun h => absurd h (show ¬ ((1 : Int) = (0 : Int)) by omega)) (fun _ => ?_)
          refine g_iconst lk_108_24 ?_
          refine g_goto (t := 29) lk_108_25 rfl ?_
          refine g_iadd lk_108_29 ?_
          refine g_istore_n (ls' := [(2, ((54 : Nat) : Int)), (0, (((sm f i : Nat) : Int) + 1)), (0, (i : Int))]) lk_108_30 rfl rfl ?_
          refine g_iinc (ls' := [(2, ((54 : Nat) : Int)), (0, (((sm f i : Nat) : Int) + 1)), (0, ((i : Int) + 1))]) lk_108_31 rfl rfl rfl ?_
          refine g_goto (t := 4) lk_108_34 rfl ?_
          exact go _ (by rw [fi]; omega)
      · rw [if_neg q] at u fi
        refine g_iload_n lk_108_4 rfl ?_
        refine g_aload_n lk_108_5 rfl ?_
        refine g_getfield lk_108_6 rfl (lay.on (by decide) rfl) (v := ((55 : Nat) : Int)) (lay.rf rfl) ?_
        refine m_getfield (u := []) (M := M) lk_108_9 rfl (lay.on (by decide) rfl) (v := (l : Int)) hct ?_
        refine g_icmp (t := 37) lk_108_12 rfl (by first | (unfold pm_inI; omega) | exact pm_and_in _ _ | exact pm_shr_in _ _ | exact pm_or_in _ _ | exact pm_xor_in _ _ | exact pm_shl_in _ _ | exact pm_cmp_in _ _ | exact pm_b8_in _ | (unfold pm_inI; split <;> omega)) (by first | (unfold pm_inI; omega) | exact pm_and_in _ _ | exact pm_shr_in _ _ | exact pm_or_in _ _ | exact pm_xor_in _ _ | exact pm_shl_in _ _ | exact pm_cmp_in _ _ | exact pm_b8_in _ | (unfold pm_inI; split <;> omega)) (fun h1 => ?_) (fun h1 => ?_)
        · replace h1 : (l : Int) ≤ (i : Int) := h1
          omega
        · replace h1 : ¬ ((l : Int) ≤ (i : Int)) := h1
          refine g_iload_n lk_108_15 rfl ?_
          refine g_aload_n lk_108_16 rfl ?_
          refine g_iload_n lk_108_17 rfl ?_
          refine g_virtual (p := 54) (Qc := _) lk_108_18 rfl (Nat.le_of_ble_eq_true rfl) rfl rfl (lay.on (by decide) rfl) (Nat.le_of_ble_eq_true rfl) (Nat.le_of_ble_eq_true rfl) (Nat.zero_le _) (Nat.zero_le _) (u) ?_
          rintro _ N2 ⟨rfl, hN2⟩
          rw [hN2]
          show Wp _ 108 21 [(2, ((54 : Nat) : Int)), (0, ((sm f i : Nat) : Int)), (0, (i : Int))] [(0, 0), (0, ((sm f i : Nat) : Int))] M _ _ _
          refine g_if (t := 28) lk_108_21 rfl (by first | (unfold pm_inI; omega) | exact pm_and_in _ _ | exact pm_shr_in _ _ | exact pm_or_in _ _ | exact pm_xor_in _ _ | exact pm_shl_in _ _ | exact pm_cmp_in _ _ | exact pm_b8_in _ | (unfold pm_inI; split <;> omega)) (fun _ => ?_) (fun h => absurd (show (0 : Int) = (0 : Int) by omega) h)
          refine g_iconst lk_108_28 ?_
          refine g_iadd lk_108_29 ?_
          refine g_istore_n (ls' := [(2, ((54 : Nat) : Int)), (0, (((sm f i : Nat) : Int) + 0)), (0, (i : Int))]) lk_108_30 rfl rfl ?_
          refine g_iinc (ls' := [(2, ((54 : Nat) : Int)), (0, (((sm f i : Nat) : Int) + 0)), (0, ((i : Int) + 1))]) lk_108_31 rfl rfl rfl ?_
          refine g_goto (t := 4) lk_108_34 rfl ?_
          exact go _ (by rw [fi]; omega)
  show Wp (d + 1) 108 0 [(2, ((54 : Nat) : Int)), (9, 0), (9, 0)] [] M mc ms Q
  refine g_iconst lk_108_0 ?_
  refine g_istore_n (ls' := [(2, ((54 : Nat) : Int)), (0, 0), (9, 0)]) lk_108_1 rfl rfl ?_
  refine g_iconst lk_108_2 ?_
  refine g_istore_n (ls' := [(2, ((54 : Nat) : Int)), (0, 0), (0, 0)]) lk_108_3 rfl rfl ?_
  exact loop l 0 (by omega)
theorem c_Told_worstCost0 {d mc ms : Nat} {M : pm_M} (lay : Lay M) {T : Tab} (hT : TabOK T) {L : List Nd} {p dp : Nat → Nat} (hX : TdAt M 54 T L p dp) :
    pm_E (d + 2) 109 [(2, ((54 : Nat) : Int))] M mc ms (fun ρ M' => ρ = some (0, (x2 T (fun r c => wc T L r c 9 0) : Int)) ∧ M' = M) := by
  obtain ⟨Q, hQ⟩ : ∃ Q : pm_Q, Q = (fun ρ M' => ρ = some (0, (x2 T (fun r c => wc T L r c 9 0) : Int)) ∧ M' = M) := ⟨_, rfl⟩
  rw [← hQ]
  have iu := fun k hk => c_Told_isUsedLeaf0 (d := d) (mc := 0) (ms := 0) lay hT hX (k := k) hk
  obtain ⟨⟨hD, hp, hx⟩, hct, hL, hC⟩ := hX
  have l31 := hD.2.1
  have fin := x2_leaf hT hD hp (fun k => (CM T L p k).2.2.2.1) (fun r c => wc T L r c 9 0) (fun r c hr hc => (leaf_at hT hD hp hr hc).2.2.2.2.1)
  obtain ⟨f, hf⟩ : ∃ f : Nat → Nat, f = fun k => if (ndA L k).1 = 0 ∧ ¬ idl (CM T L p k) then (CM T L p k).2.2.2.1 else 0 := ⟨_, rfl⟩
  have fin2 : xm f L.length = x2 T (fun r c => wc T L r c 9 0) := by rw [hf]; exact fin
  obtain ⟨l, hl⟩ : ∃ l, l = L.length := ⟨_, rfl⟩
  rw [← hl] at hct l31 fin2
  have fb : ∀ i, i < l → f i ≤ 81 := fun i hi => by
    obtain ⟨_, _, _, b4, _, _⟩ := CM_bd hT hD hp _ _ (Nat.lt_succ_self _) (show i < L.length by omega)
    have := (hx i (by omega)).1
    rw [hf]
    show (if (ndA L i).1 = 0 ∧ ¬ idl (CM T L p i) then (CM T L p i).2.2.2.1 else 0) ≤ 81
    split <;> omega
  have loop : ∀ (n i : Nat), i + n = l → Wp (d + 2) 109 4 [(2, ((54 : Nat) : Int)), (0, ((xm f i : Nat) : Int)), (0, (i : Int))] [] M mc ms Q := by
    intro n
    induction n with
    | zero =>
      intro i hi
      have e : i = l := by omega
      subst e
      refine g_iload_n lk_109_4 rfl ?_
      refine g_aload_n lk_109_5 rfl ?_
      refine g_getfield lk_109_6 rfl (lay.on (by decide) rfl) (v := ((55 : Nat) : Int)) (lay.rf rfl) ?_
      refine m_getfield (u := []) (M := M) lk_109_9 rfl (lay.on (by decide) rfl) (v := (i : Int)) hct ?_
      refine g_icmp (t := 44) lk_109_12 rfl (by first | (unfold pm_inI; omega) | exact pm_and_in _ _ | exact pm_shr_in _ _ | exact pm_or_in _ _ | exact pm_xor_in _ _ | exact pm_shl_in _ _ | exact pm_cmp_in _ _ | exact pm_b8_in _ | (unfold pm_inI; split <;> omega)) (by first | (unfold pm_inI; omega) | exact pm_and_in _ _ | exact pm_shr_in _ _ | exact pm_or_in _ _ | exact pm_xor_in _ _ | exact pm_shl_in _ _ | exact pm_cmp_in _ _ | exact pm_b8_in _ | (unfold pm_inI; split <;> omega)) (fun h1 => ?_) (fun h1 => ?_)
      · replace h1 : (i : Int) ≤ (i : Int) := h1
        refine g_iload_n lk_109_44 rfl ?_
        refine g_ireturn lk_109_45 (fun h => absurd h (by decide)) ?_
        rw [hQ]
        exact ⟨by rw [fin2], rfl⟩
      · replace h1 : ¬ ((i : Int) ≤ (i : Int)) := h1
        omega
    | succ n ih =>
      intro i hi
      have hk : i < L.length := by omega
      have u := iu i hk
      have rd := (hC i hk).2.2.2.1
      have fi : f i = if (ndA L i).1 = 0 ∧ ¬ idl (CM T L p i) then (CM T L p i).2.2.2.1 else 0 := by rw [hf]
      have f8 := fb i (by omega)
      have x8 : xm f i ≤ 81 := xm_le (fun j hj => fb j (by omega))
      obtain ⟨a, ha⟩ : ∃ a, a = xm f i := ⟨_, rfl⟩
      have go : ∀ z : Int, z = ((max a (f i) : Nat) : Int) → Wp (d + 2) 109 4 [(2, ((54 : Nat) : Int)), (0, z), (0, (i : Int) + 1)] [] M mc ms Q := fun z hz => by
        rw [hz, ha]; exact ih (i + 1) (by omega)
      rw [← ha] at x8 ⊢
      obtain ⟨s, hs⟩ : ∃ s, s = (CM T L p i).2.2.2.1 := ⟨_, rfl⟩
      rw [← hs] at rd fi
      by_cases q : (ndA L i).1 = 0 ∧ ¬ idl (CM T L p i)
      · rw [if_pos q] at u fi
        rw [fi] at f8
        refine g_iload_n lk_109_4 rfl ?_
        refine g_aload_n lk_109_5 rfl ?_
        refine g_getfield lk_109_6 rfl (lay.on (by decide) rfl) (v := ((55 : Nat) : Int)) (lay.rf rfl) ?_
        refine m_getfield (u := []) (M := M) lk_109_9 rfl (lay.on (by decide) rfl) (v := (l : Int)) hct ?_
        refine g_icmp (t := 44) lk_109_12 rfl (by first | (unfold pm_inI; omega) | exact pm_and_in _ _ | exact pm_shr_in _ _ | exact pm_or_in _ _ | exact pm_xor_in _ _ | exact pm_shl_in _ _ | exact pm_cmp_in _ _ | exact pm_b8_in _ | (unfold pm_inI; split <;> omega)) (by first | (unfold pm_inI; omega) | exact pm_and_in _ _ | exact pm_shr_in _ _ | exact pm_or_in _ _ | exact pm_xor_in _ _ | exact pm_shl_in _ _ | exact pm_cmp_in _ _ | exact pm_b8_in _ | (unfold pm_inI; split <;> omega)) (fun h1 => ?_) (fun h1 => ?_)
        · replace h1 : (l : Int) ≤ (i : Int) := h1
          omega
        · replace h1 : ¬ ((l : Int) ≤ (i : Int)) := h1
          refine g_aload_n lk_109_15 rfl ?_
          refine g_iload_n lk_109_16 rfl ?_
          refine g_virtual (p := 54) (Qc := _) lk_109_17 rfl (Nat.le_of_ble_eq_true rfl) rfl rfl (lay.on (by decide) rfl) (Nat.le_of_ble_eq_true rfl) (Nat.le_of_ble_eq_true rfl) (Nat.zero_le _) (Nat.zero_le _) (u) ?_
          rintro _ N2 ⟨rfl, hN2⟩
          rw [hN2]
          show Wp _ 109 20 [(2, ((54 : Nat) : Int)), (0, (a : Int)), (0, (i : Int))] [(0, 1)] M _ _ _
          refine g_if (t := 36) lk_109_20 rfl (by first | (unfold pm_inI; omega) | exact pm_and_in _ _ | exact pm_shr_in _ _ | exact pm_or_in _ _ | exact pm_xor_in _ _ | exact pm_shl_in _ _ | exact pm_cmp_in _ _ | exact pm_b8_in _ | (unfold pm_inI; split <;> omega)) (fun h => absurd h (show ¬ ((1 : Int) = (0 : Int)) by omega)) (fun _ => ?_)
          refine g_iload_n lk_109_23 rfl ?_
          refine g_aload_n lk_109_24 rfl ?_
          refine g_getfield lk_109_25 rfl (lay.on (by decide) rfl) (v := ((62 : Nat) : Int)) (lay.rf rfl) ?_
          refine g_iload_n lk_109_28 rfl ?_
          refine m_iaload (u := []) (M := M) lk_109_29 (lay.ay (by decide) rfl) (by omega) (j := i) (by omega) (v := (s : Int)) rd ?_
          refine g_mmax lk_109_30 (by first | (unfold pm_inI; omega) | exact pm_and_in _ _ | exact pm_shr_in _ _ | exact pm_or_in _ _ | exact pm_xor_in _ _ | exact pm_shl_in _ _ | exact pm_cmp_in _ _ | exact pm_b8_in _ | (unfold pm_inI; split <;> omega)) (by first | (unfold pm_inI; omega) | exact pm_and_in _ _ | exact pm_shr_in _ _ | exact pm_or_in _ _ | exact pm_xor_in _ _ | exact pm_shl_in _ _ | exact pm_cmp_in _ _ | exact pm_b8_in _ | (unfold pm_inI; split <;> omega)) (Nat.le_of_ble_eq_true rfl) ?_
          refine g_goto (t := 37) lk_109_33 rfl ?_
          refine g_istore_n (ls' := [(2, ((54 : Nat) : Int)), (0, (max (a : Int) (s : Int))), (0, (i : Int))]) lk_109_37 rfl rfl ?_
          refine g_iinc (ls' := [(2, ((54 : Nat) : Int)), (0, (max (a : Int) (s : Int))), (0, ((i : Int) + 1))]) lk_109_38 rfl rfl rfl ?_
          refine g_goto (t := 4) lk_109_41 rfl ?_
          exact go _ (by rw [fi]; omega)
      · rw [if_neg q] at u fi
        refine g_iload_n lk_109_4 rfl ?_
        refine g_aload_n lk_109_5 rfl ?_
        refine g_getfield lk_109_6 rfl (lay.on (by decide) rfl) (v := ((55 : Nat) : Int)) (lay.rf rfl) ?_
        refine m_getfield (u := []) (M := M) lk_109_9 rfl (lay.on (by decide) rfl) (v := (l : Int)) hct ?_
        refine g_icmp (t := 44) lk_109_12 rfl (by first | (unfold pm_inI; omega) | exact pm_and_in _ _ | exact pm_shr_in _ _ | exact pm_or_in _ _ | exact pm_xor_in _ _ | exact pm_shl_in _ _ | exact pm_cmp_in _ _ | exact pm_b8_in _ | (unfold pm_inI; split <;> omega)) (by first | (unfold pm_inI; omega) | exact pm_and_in _ _ | exact pm_shr_in _ _ | exact pm_or_in _ _ | exact pm_xor_in _ _ | exact pm_shl_in _ _ | exact pm_cmp_in _ _ | exact pm_b8_in _ | (unfold pm_inI; split <;> omega)) (fun h1 => ?_) (fun h1 => ?_)
        · replace h1 : (l : Int) ≤ (i : Int) := h1
          omega
        · replace h1 : ¬ ((l : Int) ≤ (i : Int)) := h1
          refine g_aload_n lk_109_15 rfl ?_
          refine g_iload_n lk_109_16 rfl ?_
          refine g_virtual (p := 54) (Qc := _) lk_109_17 rfl (Nat.le_of_ble_eq_true rfl) rfl rfl (lay.on (by decide) rfl) (Nat.le_of_ble_eq_true rfl) (Nat.le_of_ble_eq_true rfl) (Nat.zero_le _) (Nat.zero_le _) (u) ?_
          rintro _ N2 ⟨rfl, hN2⟩
          rw [hN2]
          show Wp _ 109 20 [(2, ((54 : Nat) : Int)), (0, (a : Int)), (0, (i : Int))] [(0, 0)] M _ _ _
          refine g_if (t := 36) lk_109_20 rfl (by first | (unfold pm_inI; omega) | exact pm_and_in _ _ | exact pm_shr_in _ _ | exact pm_or_in _ _ | exact pm_xor_in _ _ | exact pm_shl_in _ _ | exact pm_cmp_in _ _ | exact pm_b8_in _ | (unfold pm_inI; split <;> omega)) (fun _ => ?_) (fun h => absurd (show (0 : Int) = (0 : Int) by omega) h)
          refine g_iload_n lk_109_36 rfl ?_
          refine g_istore_n (ls' := [(2, ((54 : Nat) : Int)), (0, (a : Int)), (0, (i : Int))]) lk_109_37 rfl rfl ?_
          refine g_iinc (ls' := [(2, ((54 : Nat) : Int)), (0, (a : Int)), (0, ((i : Int) + 1))]) lk_109_38 rfl rfl rfl ?_
          refine g_goto (t := 4) lk_109_41 rfl ?_
          exact go _ (by rw [fi]; omega)
  show Wp (d + 2) 109 0 [(2, ((54 : Nat) : Int)), (9, 0), (9, 0)] [] M mc ms Q
  refine g_iconst lk_109_0 ?_
  refine g_istore_n (ls' := [(2, ((54 : Nat) : Int)), (0, 0), (9, 0)]) lk_109_1 rfl rfl ?_
  refine g_iconst lk_109_2 ?_
  refine g_istore_n (ls' := [(2, ((54 : Nat) : Int)), (0, 0), (0, 0)]) lk_109_3 rfl rfl ?_
  exact loop l 0 (by omega)
theorem c_Told_mostTurns0 {d mc ms : Nat} {M : pm_M} (lay : Lay M) {T : Tab} (hT : TabOK T) {L : List Nd} {p dp : Nat → Nat} (hX : TdAt M 54 T L p dp) :
    pm_E (d + 2) 110 [(2, ((54 : Nat) : Int))] M mc ms (fun ρ M' => ρ = some (0, (x2 T (fun r c => wt L r c 9 0 0) : Int)) ∧ M' = M) := by
  obtain ⟨Q, hQ⟩ : ∃ Q : pm_Q, Q = (fun ρ M' => ρ = some (0, (x2 T (fun r c => wt L r c 9 0 0) : Int)) ∧ M' = M) := ⟨_, rfl⟩
  rw [← hQ]
  have iu := fun k hk => c_Told_isUsedLeaf0 (d := d) (mc := 0) (ms := 0) lay hT hX (k := k) hk
  obtain ⟨⟨hD, hp, hx⟩, hct, hL, hC⟩ := hX
  have l31 := hD.2.1
  have fin := x2_leaf hT hD hp (fun k => (CM T L p k).2.2.2.2.1) (fun r c => wt L r c 9 0 0) (fun r c hr hc => (leaf_at hT hD hp hr hc).2.2.2.2.2.1)
  obtain ⟨f, hf⟩ : ∃ f : Nat → Nat, f = fun k => if (ndA L k).1 = 0 ∧ ¬ idl (CM T L p k) then (CM T L p k).2.2.2.2.1 else 0 := ⟨_, rfl⟩
  have fin2 : xm f L.length = x2 T (fun r c => wt L r c 9 0 0) := by rw [hf]; exact fin
  obtain ⟨l, hl⟩ : ∃ l, l = L.length := ⟨_, rfl⟩
  rw [← hl] at hct l31 fin2
  have fb : ∀ i, i < l → f i ≤ 81 := fun i hi => by
    obtain ⟨_, _, _, _, b5, _⟩ := CM_bd hT hD hp _ _ (Nat.lt_succ_self _) (show i < L.length by omega)
    have := (hx i (by omega)).1
    rw [hf]
    show (if (ndA L i).1 = 0 ∧ ¬ idl (CM T L p i) then (CM T L p i).2.2.2.2.1 else 0) ≤ 81
    split <;> omega
  have loop : ∀ (n i : Nat), i + n = l → Wp (d + 2) 110 4 [(2, ((54 : Nat) : Int)), (0, ((xm f i : Nat) : Int)), (0, (i : Int))] [] M mc ms Q := by
    intro n
    induction n with
    | zero =>
      intro i hi
      have e : i = l := by omega
      subst e
      refine g_iload_n lk_110_4 rfl ?_
      refine g_aload_n lk_110_5 rfl ?_
      refine g_getfield lk_110_6 rfl (lay.on (by decide) rfl) (v := ((55 : Nat) : Int)) (lay.rf rfl) ?_
      refine m_getfield (u := []) (M := M) lk_110_9 rfl (lay.on (by decide) rfl) (v := (i : Int)) hct ?_
      refine g_icmp (t := 44) lk_110_12 rfl (by first | (unfold pm_inI; omega) | exact pm_and_in _ _ | exact pm_shr_in _ _ | exact pm_or_in _ _ | exact pm_xor_in _ _ | exact pm_shl_in _ _ | exact pm_cmp_in _ _ | exact pm_b8_in _ | (unfold pm_inI; split <;> omega)) (by first | (unfold pm_inI; omega) | exact pm_and_in _ _ | exact pm_shr_in _ _ | exact pm_or_in _ _ | exact pm_xor_in _ _ | exact pm_shl_in _ _ | exact pm_cmp_in _ _ | exact pm_b8_in _ | (unfold pm_inI; split <;> omega)) (fun h1 => ?_) (fun h1 => ?_)
      · replace h1 : (i : Int) ≤ (i : Int) := h1
        refine g_iload_n lk_110_44 rfl ?_
        refine g_ireturn lk_110_45 (fun h => absurd h (by decide)) ?_
        rw [hQ]
        exact ⟨by rw [fin2], rfl⟩
      · replace h1 : ¬ ((i : Int) ≤ (i : Int)) := h1
        omega
    | succ n ih =>
      intro i hi
      have hk : i < L.length := by omega
      have u := iu i hk
      have rd := (hC i hk).2.2.2.2.1
      have fi : f i = if (ndA L i).1 = 0 ∧ ¬ idl (CM T L p i) then (CM T L p i).2.2.2.2.1 else 0 := by rw [hf]
      have f8 := fb i (by omega)
      have x8 : xm f i ≤ 81 := xm_le (fun j hj => fb j (by omega))
      obtain ⟨a, ha⟩ : ∃ a, a = xm f i := ⟨_, rfl⟩
      have go : ∀ z : Int, z = ((max a (f i) : Nat) : Int) → Wp (d + 2) 110 4 [(2, ((54 : Nat) : Int)), (0, z), (0, (i : Int) + 1)] [] M mc ms Q := fun z hz => by
        rw [hz, ha]; exact ih (i + 1) (by omega)
      rw [← ha] at x8 ⊢
      obtain ⟨s, hs⟩ : ∃ s, s = (CM T L p i).2.2.2.2.1 := ⟨_, rfl⟩
      rw [← hs] at rd fi
      by_cases q : (ndA L i).1 = 0 ∧ ¬ idl (CM T L p i)
      · rw [if_pos q] at u fi
        rw [fi] at f8
        refine g_iload_n lk_110_4 rfl ?_
        refine g_aload_n lk_110_5 rfl ?_
        refine g_getfield lk_110_6 rfl (lay.on (by decide) rfl) (v := ((55 : Nat) : Int)) (lay.rf rfl) ?_
        refine m_getfield (u := []) (M := M) lk_110_9 rfl (lay.on (by decide) rfl) (v := (l : Int)) hct ?_
        refine g_icmp (t := 44) lk_110_12 rfl (by first | (unfold pm_inI; omega) | exact pm_and_in _ _ | exact pm_shr_in _ _ | exact pm_or_in _ _ | exact pm_xor_in _ _ | exact pm_shl_in _ _ | exact pm_cmp_in _ _ | exact pm_b8_in _ | (unfold pm_inI; split <;> omega)) (by first | (unfold pm_inI; omega) | exact pm_and_in _ _ | exact pm_shr_in _ _ | exact pm_or_in _ _ | exact pm_xor_in _ _ | exact pm_shl_in _ _ | exact pm_cmp_in _ _ | exact pm_b8_in _ | (unfold pm_inI; split <;> omega)) (fun h1 => ?_) (fun h1 => ?_)
        · replace h1 : (l : Int) ≤ (i : Int) := h1
          omega
        · replace h1 : ¬ ((l : Int) ≤ (i : Int)) := h1
          refine g_aload_n lk_110_15 rfl ?_
          refine g_iload_n lk_110_16 rfl ?_
          refine g_virtual (p := 54) (Qc := _) lk_110_17 rfl (Nat.le_of_ble_eq_true rfl) rfl rfl (lay.on (by decide) rfl) (Nat.le_of_ble_eq_true rfl) (Nat.le_of_ble_eq_true rfl) (Nat.zero_le _) (Nat.zero_le _) (u) ?_
          rintro _ N2 ⟨rfl, hN2⟩
          rw [hN2]
          show Wp _ 110 20 [(2, ((54 : Nat) : Int)), (0, (a : Int)), (0, (i : Int))] [(0, 1)] M _ _ _
          refine g_if (t := 36) lk_110_20 rfl (by first | (unfold pm_inI; omega) | exact pm_and_in _ _ | exact pm_shr_in _ _ | exact pm_or_in _ _ | exact pm_xor_in _ _ | exact pm_shl_in _ _ | exact pm_cmp_in _ _ | exact pm_b8_in _ | (unfold pm_inI; split <;> omega)) (fun h => absurd h (show ¬ ((1 : Int) = (0 : Int)) by omega)) (fun _ => ?_)
          refine g_iload_n lk_110_23 rfl ?_
          refine g_aload_n lk_110_24 rfl ?_
          refine g_getfield lk_110_25 rfl (lay.on (by decide) rfl) (v := ((63 : Nat) : Int)) (lay.rf rfl) ?_
          refine g_iload_n lk_110_28 rfl ?_
          refine m_iaload (u := []) (M := M) lk_110_29 (lay.ay (by decide) rfl) (by omega) (j := i) (by omega) (v := (s : Int)) rd ?_
          refine g_mmax lk_110_30 (by first | (unfold pm_inI; omega) | exact pm_and_in _ _ | exact pm_shr_in _ _ | exact pm_or_in _ _ | exact pm_xor_in _ _ | exact pm_shl_in _ _ | exact pm_cmp_in _ _ | exact pm_b8_in _ | (unfold pm_inI; split <;> omega)) (by first | (unfold pm_inI; omega) | exact pm_and_in _ _ | exact pm_shr_in _ _ | exact pm_or_in _ _ | exact pm_xor_in _ _ | exact pm_shl_in _ _ | exact pm_cmp_in _ _ | exact pm_b8_in _ | (unfold pm_inI; split <;> omega)) (Nat.le_of_ble_eq_true rfl) ?_
          refine g_goto (t := 37) lk_110_33 rfl ?_
          refine g_istore_n (ls' := [(2, ((54 : Nat) : Int)), (0, (max (a : Int) (s : Int))), (0, (i : Int))]) lk_110_37 rfl rfl ?_
          refine g_iinc (ls' := [(2, ((54 : Nat) : Int)), (0, (max (a : Int) (s : Int))), (0, ((i : Int) + 1))]) lk_110_38 rfl rfl rfl ?_
          refine g_goto (t := 4) lk_110_41 rfl ?_
          exact go _ (by rw [fi]; omega)
      · rw [if_neg q] at u fi
        refine g_iload_n lk_110_4 rfl ?_
        refine g_aload_n lk_110_5 rfl ?_
        refine g_getfield lk_110_6 rfl (lay.on (by decide) rfl) (v := ((55 : Nat) : Int)) (lay.rf rfl) ?_
        refine m_getfield (u := []) (M := M) lk_110_9 rfl (lay.on (by decide) rfl) (v := (l : Int)) hct ?_
        refine g_icmp (t := 44) lk_110_12 rfl (by first | (unfold pm_inI; omega) | exact pm_and_in _ _ | exact pm_shr_in _ _ | exact pm_or_in _ _ | exact pm_xor_in _ _ | exact pm_shl_in _ _ | exact pm_cmp_in _ _ | exact pm_b8_in _ | (unfold pm_inI; split <;> omega)) (by first | (unfold pm_inI; omega) | exact pm_and_in _ _ | exact pm_shr_in _ _ | exact pm_or_in _ _ | exact pm_xor_in _ _ | exact pm_shl_in _ _ | exact pm_cmp_in _ _ | exact pm_b8_in _ | (unfold pm_inI; split <;> omega)) (fun h1 => ?_) (fun h1 => ?_)
        · replace h1 : (l : Int) ≤ (i : Int) := h1
          omega
        · replace h1 : ¬ ((l : Int) ≤ (i : Int)) := h1
          refine g_aload_n lk_110_15 rfl ?_
          refine g_iload_n lk_110_16 rfl ?_
          refine g_virtual (p := 54) (Qc := _) lk_110_17 rfl (Nat.le_of_ble_eq_true rfl) rfl rfl (lay.on (by decide) rfl) (Nat.le_of_ble_eq_true rfl) (Nat.le_of_ble_eq_true rfl) (Nat.zero_le _) (Nat.zero_le _) (u) ?_
          rintro _ N2 ⟨rfl, hN2⟩
          rw [hN2]
          show Wp _ 110 20 [(2, ((54 : Nat) : Int)), (0, (a : Int)), (0, (i : Int))] [(0, 0)] M _ _ _
          refine g_if (t := 36) lk_110_20 rfl (by first | (unfold pm_inI; omega) | exact pm_and_in _ _ | exact pm_shr_in _ _ | exact pm_or_in _ _ | exact pm_xor_in _ _ | exact pm_shl_in _ _ | exact pm_cmp_in _ _ | exact pm_b8_in _ | (unfold pm_inI; split <;> omega)) (fun _ => ?_) (fun h => absurd (show (0 : Int) = (0 : Int) by omega) h)
          refine g_iload_n lk_110_36 rfl ?_
          refine g_istore_n (ls' := [(2, ((54 : Nat) : Int)), (0, (a : Int)), (0, (i : Int))]) lk_110_37 rfl rfl ?_
          refine g_iinc (ls' := [(2, ((54 : Nat) : Int)), (0, (a : Int)), (0, ((i : Int) + 1))]) lk_110_38 rfl rfl rfl ?_
          refine g_goto (t := 4) lk_110_41 rfl ?_
          exact go _ (by rw [fi]; omega)
  show Wp (d + 2) 110 0 [(2, ((54 : Nat) : Int)), (9, 0), (9, 0)] [] M mc ms Q
  refine g_iconst lk_110_0 ?_
  refine g_istore_n (ls' := [(2, ((54 : Nat) : Int)), (0, 0), (9, 0)]) lk_110_1 rfl rfl ?_
  refine g_iconst lk_110_2 ?_
  refine g_istore_n (ls' := [(2, ((54 : Nat) : Int)), (0, 0), (0, 0)]) lk_110_3 rfl rfl ?_
  exact loop l 0 (by omega)
theorem c_Told_sumOfCosts0 {d mc ms : Nat} {M : pm_M} (lay : Lay M) {T : Tab} (hT : TabOK T) (hM : TbAt M 24 T) {L : List Nd} {p dp : Nat → Nat} (hX : TdAt M 54 T L p dp) :
    pm_E (d + 5) 111 [(2, ((54 : Nat) : Int)), (2, ((24 : Nat) : Int))] M mc ms (fun ρ M' => ρ = some (0, (tSum T L : Int)) ∧ M' = M) := by
  obtain ⟨Q, hQ⟩ : ∃ Q : pm_Q, Q = (fun ρ M' => ρ = some (0, (tSum T L : Int)) ∧ M' = M) := ⟨_, rfl⟩
  rw [← hQ]
  have iu := fun k hk => c_Told_isUsedLeaf0 (d := d + 3) (mc := 0) (ms := 0) lay hT hX (k := k) hk
  obtain ⟨⟨hD, hp, hx⟩, hct, hL, hC⟩ := hX
  have l31 := hD.2.1
  have fin := tSum_eq2 hT hD hp
  obtain ⟨f, hf⟩ : ∃ f : Nat → Nat, f = fun k => if (ndA L k).1 = 0 ∧ ¬ idl (CM T L p k) then (CM T L p k).2.2.2.1 * nA T (CM T L p k).1 (CM T L p k).2.1 else 0 := ⟨_, rfl⟩
  rw [← hf] at fin
  obtain ⟨l, hl⟩ : ∃ l, l = L.length := ⟨_, rfl⟩
  rw [← hl] at hct l31 fin
  have loop : ∀ (n i : Nat), i + n = l → Wp (d + 5) 111 4 [(2, ((54 : Nat) : Int)), (2, ((24 : Nat) : Int)), (0, ((sm f i : Nat) : Int)), (0, (i : Int))] [] M mc ms Q := by
    intro n
    induction n with
    | zero =>
      intro i hi
      have e : i = l := by omega
      subst e
      refine g_iload_n lk_111_4 rfl ?_
      refine g_aload_n lk_111_5 rfl ?_
      refine g_getfield lk_111_6 rfl (lay.on (by decide) rfl) (v := ((55 : Nat) : Int)) (lay.rf rfl) ?_
      refine m_getfield (u := []) (M := M) lk_111_9 rfl (lay.on (by decide) rfl) (v := (i : Int)) hct ?_
      refine g_icmp (t := 55) lk_111_12 rfl (by first | (unfold pm_inI; omega) | exact pm_and_in _ _ | exact pm_shr_in _ _ | exact pm_or_in _ _ | exact pm_xor_in _ _ | exact pm_shl_in _ _ | exact pm_cmp_in _ _ | exact pm_b8_in _ | (unfold pm_inI; split <;> omega)) (by first | (unfold pm_inI; omega) | exact pm_and_in _ _ | exact pm_shr_in _ _ | exact pm_or_in _ _ | exact pm_xor_in _ _ | exact pm_shl_in _ _ | exact pm_cmp_in _ _ | exact pm_b8_in _ | (unfold pm_inI; split <;> omega)) (fun h1 => ?_) (fun h1 => ?_)
      · replace h1 : (i : Int) ≤ (i : Int) := h1
        refine g_iload_n lk_111_55 rfl ?_
        refine g_ireturn lk_111_56 (fun h => absurd h (by decide)) ?_
        rw [hQ]
        exact ⟨by rw [fin], rfl⟩
      · replace h1 : ¬ ((i : Int) ≤ (i : Int)) := h1
        omega
    | succ n ih =>
      intro i hi
      have hk : i < L.length := by omega
      have u := iu i hk
      obtain ⟨rd1, rd2, _, rd4, _⟩ := hC i hk
      obtain ⟨b1, b2, _, _, _, _⟩ := CM_bd hT hD hp _ _ (Nat.lt_succ_self _) hk
      have fi : f i = if (ndA L i).1 = 0 ∧ ¬ idl (CM T L p i) then (CM T L p i).2.2.2.1 * nA T (CM T L p i).1 (CM T L p i).2.1 else 0 := by rw [hf]
      have go : ∀ z : Int, z = ((sm f i + f i : Nat) : Int) → Wp (d + 5) 111 4 [(2, ((54 : Nat) : Int)), (2, ((24 : Nat) : Int)), (0, z), (0, (i : Int) + 1)] [] M mc ms Q := fun z hz => by
        rw [hz]; exact ih (i + 1) (by omega)
      obtain ⟨e, he⟩ : ∃ e, e = CM T L p i := ⟨_, rfl⟩
      rw [← he] at rd1 rd2 rd4 fi b1 b2
      have r6 := lt_64_of hT.1.2 b1
      have c6 := lt_64_of hT.2.1.2 b2
      have fl := c_Table_filledIn (d := d) (mc := 0) (ms := 0) lay (Or.inr rfl) hT hM r6 c6
      rw [uIn_nU hT c6, nU_10] at fl
      by_cases q : (ndA L i).1 = 0 ∧ ¬ idl (CM T L p i)
      · rw [if_pos q] at u
        rw [if_pos (by rw [he]; exact q)] at fi
        refine g_iload_n lk_111_4 rfl ?_
        refine g_aload_n lk_111_5 rfl ?_
        refine g_getfield lk_111_6 rfl (lay.on (by decide) rfl) (v := ((55 : Nat) : Int)) (lay.rf rfl) ?_
        refine m_getfield (u := []) (M := M) lk_111_9 rfl (lay.on (by decide) rfl) (v := (l : Int)) hct ?_
        refine g_icmp (t := 55) lk_111_12 rfl (by first | (unfold pm_inI; omega) | exact pm_and_in _ _ | exact pm_shr_in _ _ | exact pm_or_in _ _ | exact pm_xor_in _ _ | exact pm_shl_in _ _ | exact pm_cmp_in _ _ | exact pm_b8_in _ | (unfold pm_inI; split <;> omega)) (by first | (unfold pm_inI; omega) | exact pm_and_in _ _ | exact pm_shr_in _ _ | exact pm_or_in _ _ | exact pm_xor_in _ _ | exact pm_shl_in _ _ | exact pm_cmp_in _ _ | exact pm_b8_in _ | (unfold pm_inI; split <;> omega)) (fun h1 => ?_) (fun h1 => ?_)
        · replace h1 : (l : Int) ≤ (i : Int) := h1
          omega
        · replace h1 : ¬ ((l : Int) ≤ (i : Int)) := h1
          refine g_aload_n lk_111_15 rfl ?_
          refine g_iload_n lk_111_16 rfl ?_
          refine g_virtual (p := 54) (Qc := _) lk_111_17 rfl (Nat.le_of_ble_eq_true rfl) rfl rfl (lay.on (by decide) rfl) (Nat.le_of_ble_eq_true rfl) (Nat.le_of_ble_eq_true rfl) (Nat.zero_le _) (Nat.zero_le _) (u) ?_
          rintro _ N2 ⟨rfl, hN2⟩
          rw [hN2]
          show Wp _ 111 20 [(2, ((54 : Nat) : Int)), (2, ((24 : Nat) : Int)), (0, ((sm f i : Nat) : Int)), (0, (i : Int))] [(0, 1)] M _ _ _
          refine g_if (t := 49) lk_111_20 rfl (by first | (unfold pm_inI; omega) | exact pm_and_in _ _ | exact pm_shr_in _ _ | exact pm_or_in _ _ | exact pm_xor_in _ _ | exact pm_shl_in _ _ | exact pm_cmp_in _ _ | exact pm_b8_in _ | (unfold pm_inI; split <;> omega)) (fun h => absurd h (show ¬ ((1 : Int) = (0 : Int)) by omega)) (fun _ => ?_)
          refine g_iload_n lk_111_23 rfl ?_
          refine g_aload_n lk_111_24 rfl ?_
          refine g_getfield lk_111_25 rfl (lay.on (by decide) rfl) (v := ((62 : Nat) : Int)) (lay.rf rfl) ?_
          refine g_iload_n lk_111_28 rfl ?_
          refine m_iaload (u := []) (M := M) lk_111_29 (lay.ay (by decide) rfl) (by omega) (j := i) (by omega) (v := (e.2.2.2.1 : Int)) rd4 ?_
          refine g_aload_n lk_111_30 rfl ?_
          refine g_aload_n lk_111_31 rfl ?_
          refine g_getfield lk_111_32 rfl (lay.on (by decide) rfl) (v := ((59 : Nat) : Int)) (lay.rf rfl) ?_
          refine g_iload_n lk_111_35 rfl ?_
          refine m_iaload (u := []) (M := M) lk_111_36 (lay.ay (by decide) rfl) (by omega) (j := i) (by omega) (v := (e.1 : Int)) rd1 ?_
          refine g_aload_n lk_111_37 rfl ?_
          refine g_getfield lk_111_38 rfl (lay.on (by decide) rfl) (v := ((60 : Nat) : Int)) (lay.rf rfl) ?_
          refine g_iload_n lk_111_41 rfl ?_
          refine m_iaload (u := []) (M := M) lk_111_42 (lay.ay (by decide) rfl) (by omega) (j := i) (by omega) (v := (e.2.1 : Int)) rd2 ?_
          refine g_virtual (p := 24) (Qc := _) lk_111_43 rfl (Nat.le_of_ble_eq_true rfl) rfl rfl (lay.on (by decide) rfl) (Nat.le_of_ble_eq_true rfl) (Nat.le_of_ble_eq_true rfl) (Nat.zero_le _) (Nat.zero_le _) (fl) ?_
          rintro _ N3 ⟨rfl, hN3⟩
          rw [hN3]
          show Wp _ 111 46 [(2, ((54 : Nat) : Int)), (2, ((24 : Nat) : Int)), (0, ((sm f i : Nat) : Int)), (0, (i : Int))] [(0, (nA T e.1 e.2.1 : Int)), (0, (e.2.2.2.1 : Int)), (0, ((sm f i : Nat) : Int))] M _ _ _
          refine g_imul lk_111_46 ?_
          refine g_iadd lk_111_47 ?_
          refine g_istore_n (ls' := [(2, ((54 : Nat) : Int)), (2, ((24 : Nat) : Int)), (0, (((sm f i : Nat) : Int) + ((e.2.2.2.1 : Int) * (nA T e.1 e.2.1 : Int)))), (0, (i : Int))]) lk_111_48 rfl rfl ?_
          refine g_iinc (ls' := [(2, ((54 : Nat) : Int)), (2, ((24 : Nat) : Int)), (0, (((sm f i : Nat) : Int) + ((e.2.2.2.1 : Int) * (nA T e.1 e.2.1 : Int)))), (0, ((i : Int) + 1))]) lk_111_49 rfl rfl rfl ?_
          refine g_goto (t := 4) lk_111_52 rfl ?_
          exact go _ (by rw [fi, Int.natCast_add, Int.natCast_mul])
      · rw [if_neg q] at u
        rw [if_neg (by rw [he]; exact q)] at fi
        refine g_iload_n lk_111_4 rfl ?_
        refine g_aload_n lk_111_5 rfl ?_
        refine g_getfield lk_111_6 rfl (lay.on (by decide) rfl) (v := ((55 : Nat) : Int)) (lay.rf rfl) ?_
        refine m_getfield (u := []) (M := M) lk_111_9 rfl (lay.on (by decide) rfl) (v := (l : Int)) hct ?_
        refine g_icmp (t := 55) lk_111_12 rfl (by first | (unfold pm_inI; omega) | exact pm_and_in _ _ | exact pm_shr_in _ _ | exact pm_or_in _ _ | exact pm_xor_in _ _ | exact pm_shl_in _ _ | exact pm_cmp_in _ _ | exact pm_b8_in _ | (unfold pm_inI; split <;> omega)) (by first | (unfold pm_inI; omega) | exact pm_and_in _ _ | exact pm_shr_in _ _ | exact pm_or_in _ _ | exact pm_xor_in _ _ | exact pm_shl_in _ _ | exact pm_cmp_in _ _ | exact pm_b8_in _ | (unfold pm_inI; split <;> omega)) (fun h1 => ?_) (fun h1 => ?_)
        · replace h1 : (l : Int) ≤ (i : Int) := h1
          omega
        · replace h1 : ¬ ((l : Int) ≤ (i : Int)) := h1
          refine g_aload_n lk_111_15 rfl ?_
          refine g_iload_n lk_111_16 rfl ?_
          refine g_virtual (p := 54) (Qc := _) lk_111_17 rfl (Nat.le_of_ble_eq_true rfl) rfl rfl (lay.on (by decide) rfl) (Nat.le_of_ble_eq_true rfl) (Nat.le_of_ble_eq_true rfl) (Nat.zero_le _) (Nat.zero_le _) (u) ?_
          rintro _ N2 ⟨rfl, hN2⟩
          rw [hN2]
          show Wp _ 111 20 [(2, ((54 : Nat) : Int)), (2, ((24 : Nat) : Int)), (0, ((sm f i : Nat) : Int)), (0, (i : Int))] [(0, 0)] M _ _ _
          refine g_if (t := 49) lk_111_20 rfl (by first | (unfold pm_inI; omega) | exact pm_and_in _ _ | exact pm_shr_in _ _ | exact pm_or_in _ _ | exact pm_xor_in _ _ | exact pm_shl_in _ _ | exact pm_cmp_in _ _ | exact pm_b8_in _ | (unfold pm_inI; split <;> omega)) (fun _ => ?_) (fun h => absurd (show (0 : Int) = (0 : Int) by omega) h)
          refine g_iinc (ls' := [(2, ((54 : Nat) : Int)), (2, ((24 : Nat) : Int)), (0, ((sm f i : Nat) : Int)), (0, ((i : Int) + 1))]) lk_111_49 rfl rfl rfl ?_
          refine g_goto (t := 4) lk_111_52 rfl ?_
          exact go _ (by rw [fi]; omega)
  show Wp (d + 5) 111 0 [(2, ((54 : Nat) : Int)), (2, ((24 : Nat) : Int)), (9, 0), (9, 0)] [] M mc ms Q
  refine g_iconst lk_111_0 ?_
  refine g_istore_n (ls' := [(2, ((54 : Nat) : Int)), (2, ((24 : Nat) : Int)), (0, 0), (9, 0)]) lk_111_1 rfl rfl ?_
  refine g_iconst lk_111_2 ?_
  refine g_istore_n (ls' := [(2, ((54 : Nat) : Int)), (2, ((24 : Nat) : Int)), (0, 0), (0, 0)]) lk_111_3 rfl rfl ?_
  exact loop l 0 (by omega)
theorem c_Told_wrongAbove0 {d mc ms : Nat} {M : pm_M} (lay : Lay M) {T : Tab} (hT : TabOK T) (hM : TbAt M 24 T) {L : List Nd} {p dp : Nat → Nat} (hX : TdAt M 54 T L p dp) {g : Nat} (hg : g ≤ 9) :
    pm_E (d + 4) 112 [(2, ((54 : Nat) : Int)), (2, ((24 : Nat) : Int)), (0, (g : Int))] M mc ms (fun ρ M' => ρ = some (0, (tWro T L g : Int)) ∧ M' = M) := by
  obtain ⟨Q, hQ⟩ : ∃ Q : pm_Q, Q = (fun ρ M' => ρ = some (0, (tWro T L g : Int)) ∧ M' = M) := ⟨_, rfl⟩
  rw [← hQ]
  have iu := fun k hk => c_Told_isUsedLeaf0 (d := d + 2) (mc := 0) (ms := 0) lay hT hX (k := k) hk
  obtain ⟨⟨hD, hp, hx⟩, hct, hL, hC⟩ := hX
  have l31 := hD.2.1
  have fin := tWro_eq2 hT hD hp g
  obtain ⟨f, hf⟩ : ∃ f : Nat → Nat, f = fun k => if ((ndA L k).1 = 0 ∧ ¬ idl (CM T L p k)) ∧ (CM T L p k).2.2.1 < g then nU T (CM T L p k).1 (CM T L p k).2.1 (ndA L k).2.1 else 0 := ⟨_, rfl⟩
  rw [← hf] at fin
  obtain ⟨l, hl⟩ : ∃ l, l = L.length := ⟨_, rfl⟩
  rw [← hl] at hct l31 fin
  have loop : ∀ (n i : Nat), i + n = l → Wp (d + 4) 112 5 [(2, ((54 : Nat) : Int)), (2, ((24 : Nat) : Int)), (0, (g : Int)), (0, ((sm f i : Nat) : Int)), (0, (i : Int))] [] M mc ms Q := by
    intro n
    induction n with
    | zero =>
      intro i hi
      have e : i = l := by omega
      subst e
      refine g_iload lk_112_5 rfl ?_
      refine g_aload_n lk_112_7 rfl ?_
      refine g_getfield lk_112_8 rfl (lay.on (by decide) rfl) (v := ((55 : Nat) : Int)) (lay.rf rfl) ?_
      refine m_getfield (u := []) (M := M) lk_112_11 rfl (lay.on (by decide) rfl) (v := (i : Int)) hct ?_
      refine g_icmp (t := 74) lk_112_14 rfl (by first | (unfold pm_inI; omega) | exact pm_and_in _ _ | exact pm_shr_in _ _ | exact pm_or_in _ _ | exact pm_xor_in _ _ | exact pm_shl_in _ _ | exact pm_cmp_in _ _ | exact pm_b8_in _ | (unfold pm_inI; split <;> omega)) (by first | (unfold pm_inI; omega) | exact pm_and_in _ _ | exact pm_shr_in _ _ | exact pm_or_in _ _ | exact pm_xor_in _ _ | exact pm_shl_in _ _ | exact pm_cmp_in _ _ | exact pm_b8_in _ | (unfold pm_inI; split <;> omega)) (fun h1 => ?_) (fun h1 => ?_)
      · replace h1 : (i : Int) ≤ (i : Int) := h1
        refine g_iload_n lk_112_74 rfl ?_
        refine g_ireturn lk_112_75 (fun h => absurd h (by decide)) ?_
        rw [hQ]
        exact ⟨by rw [fin], rfl⟩
      · replace h1 : ¬ ((i : Int) ≤ (i : Int)) := h1
        omega
    | succ n ih =>
      intro i hi
      have hk : i < L.length := by omega
      have u := iu i hk
      have xx := (hL i _ (ndA_get hk)).2.1
      obtain ⟨d8, v9⟩ := hx i hk
      obtain ⟨rd1, rd2, rd3, _, _⟩ := hC i hk
      obtain ⟨b1, b2, b3, _, _, _⟩ := CM_bd hT hD hp _ _ (Nat.lt_succ_self _) hk
      have fi : f i = if ((ndA L i).1 = 0 ∧ ¬ idl (CM T L p i)) ∧ (CM T L p i).2.2.1 < g then nU T (CM T L p i).1 (CM T L p i).2.1 (ndA L i).2.1 else 0 := by rw [hf]
      have go : ∀ z : Int, z = ((sm f i + f i : Nat) : Int) → Wp (d + 4) 112 5 [(2, ((54 : Nat) : Int)), (2, ((24 : Nat) : Int)), (0, (g : Int)), (0, z), (0, (i : Int) + 1)] [] M mc ms Q := fun z hz => by
        rw [hz]; exact ih (i + 1) (by omega)
      obtain ⟨e, he⟩ : ∃ e, e = CM T L p i := ⟨_, rfl⟩
      rw [← he] at rd1 rd2 rd3 fi b1 b2 b3
      have r6 := lt_64_of hT.1.2 b1
      have c6 := lt_64_of hT.2.1.2 b2
      obtain ⟨v, hv⟩ : ∃ v, v = (ndA L i).2.1 := ⟨_, rfl⟩
      rw [← hv] at xx fi v9
      by_cases q : (ndA L i).1 = 0 ∧ ¬ idl (CM T L p i)
      · have v99 := v9 q.1
        have fl := c_Table_unlikeIn (d := d) (mc := 0) (ms := 0) lay (Or.inr rfl) hT hM r6 c6 (v := v) (by omega)
        rw [uIn_nU hT c6] at fl
        rw [if_pos q] at u
        clear v9
        refine g_iload lk_112_5 rfl ?_
        refine g_aload_n lk_112_7 rfl ?_
        refine g_getfield lk_112_8 rfl (lay.on (by decide) rfl) (v := ((55 : Nat) : Int)) (lay.rf rfl) ?_
        refine m_getfield (u := []) (M := M) lk_112_11 rfl (lay.on (by decide) rfl) (v := (l : Int)) hct ?_
        refine g_icmp (t := 74) lk_112_14 rfl (by first | (unfold pm_inI; omega) | exact pm_and_in _ _ | exact pm_shr_in _ _ | exact pm_or_in _ _ | exact pm_xor_in _ _ | exact pm_shl_in _ _ | exact pm_cmp_in _ _ | exact pm_b8_in _ | (unfold pm_inI; split <;> omega)) (by first | (unfold pm_inI; omega) | exact pm_and_in _ _ | exact pm_shr_in _ _ | exact pm_or_in _ _ | exact pm_xor_in _ _ | exact pm_shl_in _ _ | exact pm_cmp_in _ _ | exact pm_b8_in _ | (unfold pm_inI; split <;> omega)) (fun h1 => ?_) (fun h1 => ?_)
        · replace h1 : (l : Int) ≤ (i : Int) := h1
          omega
        · replace h1 : ¬ ((l : Int) ≤ (i : Int)) := h1
          refine g_aload_n lk_112_17 rfl ?_
          refine g_iload lk_112_18 rfl ?_
          refine g_virtual (p := 54) (Qc := _) lk_112_20 rfl (Nat.le_of_ble_eq_true rfl) rfl rfl (lay.on (by decide) rfl) (Nat.le_of_ble_eq_true rfl) (Nat.le_of_ble_eq_true rfl) (Nat.zero_le _) (Nat.zero_le _) (u) ?_
          rintro _ N2 ⟨rfl, hN2⟩
          rw [hN2]
          show Wp _ 112 23 [(2, ((54 : Nat) : Int)), (2, ((24 : Nat) : Int)), (0, (g : Int)), (0, ((sm f i : Nat) : Int)), (0, (i : Int))] [(0, 1)] M _ _ _
          refine g_if (t := 68) lk_112_23 rfl (by first | (unfold pm_inI; omega) | exact pm_and_in _ _ | exact pm_shr_in _ _ | exact pm_or_in _ _ | exact pm_xor_in _ _ | exact pm_shl_in _ _ | exact pm_cmp_in _ _ | exact pm_b8_in _ | (unfold pm_inI; split <;> omega)) (fun h => absurd h (show ¬ ((1 : Int) = (0 : Int)) by omega)) (fun _ => ?_)
          refine g_aload_n lk_112_26 rfl ?_
          refine g_getfield lk_112_27 rfl (lay.on (by decide) rfl) (v := ((61 : Nat) : Int)) (lay.rf rfl) ?_
          refine g_iload lk_112_30 rfl ?_
          refine m_iaload (u := []) (M := M) lk_112_32 (lay.ay (by decide) rfl) (by omega) (j := i) (by omega) (v := (e.2.2.1 : Int)) rd3 ?_
          refine g_iload_n lk_112_33 rfl ?_
          refine g_icmp (t := 68) lk_112_34 rfl (by first | (unfold pm_inI; omega) | exact pm_and_in _ _ | exact pm_shr_in _ _ | exact pm_or_in _ _ | exact pm_xor_in _ _ | exact pm_shl_in _ _ | exact pm_cmp_in _ _ | exact pm_b8_in _ | (unfold pm_inI; split <;> omega)) (by first | (unfold pm_inI; omega) | exact pm_and_in _ _ | exact pm_shr_in _ _ | exact pm_or_in _ _ | exact pm_xor_in _ _ | exact pm_shl_in _ _ | exact pm_cmp_in _ _ | exact pm_b8_in _ | (unfold pm_inI; split <;> omega)) (fun h3 => ?_) (fun h3 => ?_)
          · replace h3 : (g : Int) ≤ (e.2.2.1 : Int) := h3
            refine g_iinc (ls' := [(2, ((54 : Nat) : Int)), (2, ((24 : Nat) : Int)), (0, (g : Int)), (0, ((sm f i : Nat) : Int)), (0, ((i : Int) + 1))]) lk_112_68 rfl rfl rfl ?_
            refine g_goto (t := 5) lk_112_71 rfl ?_
            exact go _ (by rw [fi, if_neg (fun w => absurd w.2 (by omega))]; omega)
          · replace h3 : ¬ ((g : Int) ≤ (e.2.2.1 : Int)) := h3
            refine g_iload_n lk_112_37 rfl ?_
            refine g_aload_n lk_112_38 rfl ?_
            refine g_aload_n lk_112_39 rfl ?_
            refine g_getfield lk_112_40 rfl (lay.on (by decide) rfl) (v := ((59 : Nat) : Int)) (lay.rf rfl) ?_
            refine g_iload lk_112_43 rfl ?_
            refine m_iaload (u := []) (M := M) lk_112_45 (lay.ay (by decide) rfl) (by omega) (j := i) (by omega) (v := (e.1 : Int)) rd1 ?_
            refine g_aload_n lk_112_46 rfl ?_
            refine g_getfield lk_112_47 rfl (lay.on (by decide) rfl) (v := ((60 : Nat) : Int)) (lay.rf rfl) ?_
            refine g_iload lk_112_50 rfl ?_
            refine m_iaload (u := []) (M := M) lk_112_52 (lay.ay (by decide) rfl) (by omega) (j := i) (by omega) (v := (e.2.1 : Int)) rd2 ?_
            refine g_aload_n lk_112_53 rfl ?_
            refine g_getfield lk_112_54 rfl (lay.on (by decide) rfl) (v := ((55 : Nat) : Int)) (lay.rf rfl) ?_
            refine g_getfield lk_112_57 rfl (lay.on (by decide) rfl) (v := ((57 : Nat) : Int)) (lay.rf rfl) ?_
            refine g_iload lk_112_60 rfl ?_
            refine m_iaload (u := []) (M := M) lk_112_62 (lay.ay (by decide) rfl) (by omega) (j := i) (by omega) (v := (v : Int)) xx ?_
            refine g_virtual (p := 24) (Qc := _) lk_112_63 rfl (Nat.le_of_ble_eq_true rfl) rfl rfl (lay.on (by decide) rfl) (Nat.le_of_ble_eq_true rfl) (Nat.le_of_ble_eq_true rfl) (Nat.zero_le _) (Nat.zero_le _) (fl) ?_
            rintro _ N4 ⟨rfl, hN4⟩
            rw [hN4]
            show Wp _ 112 66 [(2, ((54 : Nat) : Int)), (2, ((24 : Nat) : Int)), (0, (g : Int)), (0, ((sm f i : Nat) : Int)), (0, (i : Int))] [(0, (nU T e.1 e.2.1 v : Int)), (0, ((sm f i : Nat) : Int))] M _ _ _
            refine g_iadd lk_112_66 ?_
            refine g_istore_n (ls' := [(2, ((54 : Nat) : Int)), (2, ((24 : Nat) : Int)), (0, (g : Int)), (0, (((sm f i : Nat) : Int) + (nU T e.1 e.2.1 v : Int))), (0, (i : Int))]) lk_112_67 rfl rfl ?_
            refine g_iinc (ls' := [(2, ((54 : Nat) : Int)), (2, ((24 : Nat) : Int)), (0, (g : Int)), (0, (((sm f i : Nat) : Int) + (nU T e.1 e.2.1 v : Int))), (0, ((i : Int) + 1))]) lk_112_68 rfl rfl rfl ?_
            refine g_goto (t := 5) lk_112_71 rfl ?_
            exact go _ (by rw [fi, if_pos ⟨by rw [he]; exact q, by omega⟩, Int.natCast_add])
      · rw [if_neg q] at u
        rw [if_neg (by rw [he]; exact fun w => q w.1)] at fi
        clear v9
        refine g_iload lk_112_5 rfl ?_
        refine g_aload_n lk_112_7 rfl ?_
        refine g_getfield lk_112_8 rfl (lay.on (by decide) rfl) (v := ((55 : Nat) : Int)) (lay.rf rfl) ?_
        refine m_getfield (u := []) (M := M) lk_112_11 rfl (lay.on (by decide) rfl) (v := (l : Int)) hct ?_
        refine g_icmp (t := 74) lk_112_14 rfl (by first | (unfold pm_inI; omega) | exact pm_and_in _ _ | exact pm_shr_in _ _ | exact pm_or_in _ _ | exact pm_xor_in _ _ | exact pm_shl_in _ _ | exact pm_cmp_in _ _ | exact pm_b8_in _ | (unfold pm_inI; split <;> omega)) (by first | (unfold pm_inI; omega) | exact pm_and_in _ _ | exact pm_shr_in _ _ | exact pm_or_in _ _ | exact pm_xor_in _ _ | exact pm_shl_in _ _ | exact pm_cmp_in _ _ | exact pm_b8_in _ | (unfold pm_inI; split <;> omega)) (fun h1 => ?_) (fun h1 => ?_)
        · replace h1 : (l : Int) ≤ (i : Int) := h1
          omega
        · replace h1 : ¬ ((l : Int) ≤ (i : Int)) := h1
          refine g_aload_n lk_112_17 rfl ?_
          refine g_iload lk_112_18 rfl ?_
          refine g_virtual (p := 54) (Qc := _) lk_112_20 rfl (Nat.le_of_ble_eq_true rfl) rfl rfl (lay.on (by decide) rfl) (Nat.le_of_ble_eq_true rfl) (Nat.le_of_ble_eq_true rfl) (Nat.zero_le _) (Nat.zero_le _) (u) ?_
          rintro _ N2 ⟨rfl, hN2⟩
          rw [hN2]
          show Wp _ 112 23 [(2, ((54 : Nat) : Int)), (2, ((24 : Nat) : Int)), (0, (g : Int)), (0, ((sm f i : Nat) : Int)), (0, (i : Int))] [(0, 0)] M _ _ _
          refine g_if (t := 68) lk_112_23 rfl (by first | (unfold pm_inI; omega) | exact pm_and_in _ _ | exact pm_shr_in _ _ | exact pm_or_in _ _ | exact pm_xor_in _ _ | exact pm_shl_in _ _ | exact pm_cmp_in _ _ | exact pm_b8_in _ | (unfold pm_inI; split <;> omega)) (fun _ => ?_) (fun h => absurd (show (0 : Int) = (0 : Int) by omega) h)
          refine g_iinc (ls' := [(2, ((54 : Nat) : Int)), (2, ((24 : Nat) : Int)), (0, (g : Int)), (0, ((sm f i : Nat) : Int)), (0, ((i : Int) + 1))]) lk_112_68 rfl rfl rfl ?_
          refine g_goto (t := 5) lk_112_71 rfl ?_
          exact go _ (by rw [fi]; omega)
  show Wp (d + 4) 112 0 [(2, ((54 : Nat) : Int)), (2, ((24 : Nat) : Int)), (0, (g : Int)), (9, 0), (9, 0)] [] M mc ms Q
  refine g_iconst lk_112_0 ?_
  refine g_istore_n (ls' := [(2, ((54 : Nat) : Int)), (2, ((24 : Nat) : Int)), (0, (g : Int)), (0, 0), (9, 0)]) lk_112_1 rfl rfl ?_
  refine g_iconst lk_112_2 ?_
  refine g_istore (ls' := [(2, ((54 : Nat) : Int)), (2, ((24 : Nat) : Int)), (0, (g : Int)), (0, 0), (0, 0)]) lk_112_3 rfl rfl ?_
  exact loop l 0 (by omega)
theorem c_Told_isIdle1 {d mc ms : Nat} {M : pm_M} (lay : Lay M) {T : Tab} (hT : TabOK T) {L : List Nd} {p dp : Nat → Nat} (hX : TdAt M 65 T L p dp) {k : Nat} (hk : k < L.length) :
    pm_E d 101 [(2, ((65 : Nat) : Int)), (0, (k : Int))] M mc ms (fun ρ M' => ρ = some (0, if idl (CM T L p k) then 1 else 0) ∧ M' = M) := by
  obtain ⟨⟨hD, hp, hx⟩, hct, hL, hC⟩ := hX
  obtain ⟨b1, b2, _, _, _, _⟩ := CM_bd hT hD hp _ _ (Nat.lt_succ_self _) hk
  have r6 := lt_64_of hT.1.2 b1
  have c6 := lt_64_of hT.2.1.2 b2
  obtain ⟨c1, c2, _⟩ := hC k hk
  have l31 := hD.2.1
  obtain ⟨e, he⟩ : ∃ e, e = CM T L p k := ⟨_, rfl⟩
  rw [← he] at r6 c6 c1 c2 ⊢
  show Wp d 101 0 [(2, ((65 : Nat) : Int)), (0, (k : Int))] [] M mc ms _
  refine g_aload_n lk_101_0 rfl ?_
  refine g_getfield lk_101_1 rfl (lay.on (by decide) rfl) (v := ((70 : Nat) : Int)) (lay.rf rfl) ?_
  refine g_iload_n lk_101_4 rfl ?_
  refine m_iaload (u := []) (M := M) lk_101_5 (lay.ay (by decide) rfl) (by omega) (j := k) (by omega) (v := (e.1 : Int)) c1 ?_
  refine g_if (t := 18) lk_101_6 rfl (by first | (unfold pm_inI; omega) | exact pm_and_in _ _ | exact pm_shr_in _ _ | exact pm_or_in _ _ | exact pm_xor_in _ _ | exact pm_shl_in _ _ | exact pm_cmp_in _ _ | exact pm_b8_in _ | (unfold pm_inI; split <;> omega)) (fun h1 => ?_) (fun h1 => ?_)
  · replace h1 : (e.1 : Int) = 0 := h1
    refine g_iconst lk_101_18 ?_
    refine g_goto (t := 23) lk_101_19 rfl ?_
    refine g_ireturn lk_101_23 (fun _ => by omega) ?_
    exact ⟨by rw [if_pos (Or.inl (by omega))], rfl⟩
  · replace h1 : ¬ ((e.1 : Int) = 0) := h1
    refine g_aload_n lk_101_9 rfl ?_
    refine g_getfield lk_101_10 rfl (lay.on (by decide) rfl) (v := ((71 : Nat) : Int)) (lay.rf rfl) ?_
    refine g_iload_n lk_101_13 rfl ?_
    refine m_iaload (u := []) (M := M) lk_101_14 (lay.ay (by decide) rfl) (by omega) (j := k) (by omega) (v := (e.2.1 : Int)) c2 ?_
    refine g_if (t := 22) lk_101_15 rfl (by first | (unfold pm_inI; omega) | exact pm_and_in _ _ | exact pm_shr_in _ _ | exact pm_or_in _ _ | exact pm_xor_in _ _ | exact pm_shl_in _ _ | exact pm_cmp_in _ _ | exact pm_b8_in _ | (unfold pm_inI; split <;> omega)) (fun h2 => ?_) (fun h2 => ?_)
    · replace h2 : ¬ (e.2.1 : Int) = 0 := h2
      refine g_iconst lk_101_22 ?_
      refine g_ireturn lk_101_23 (fun _ => by omega) ?_
      exact ⟨by rw [if_neg (by omega)], rfl⟩
    · replace h2 : ¬ (¬ (e.2.1 : Int) = 0) := h2
      refine g_iconst lk_101_18 ?_
      refine g_goto (t := 23) lk_101_19 rfl ?_
      refine g_ireturn lk_101_23 (fun _ => by omega) ?_
      exact ⟨by rw [if_pos (Or.inr (by omega))], rfl⟩
theorem c_Told_isUsedLeaf1 {d mc ms : Nat} {M : pm_M} (lay : Lay M) {T : Tab} (hT : TabOK T) {L : List Nd} {p dp : Nat → Nat} (hX : TdAt M 65 T L p dp) {k : Nat} (hk : k < L.length) :
    pm_E (d + 1) 102 [(2, ((65 : Nat) : Int)), (0, (k : Int))] M mc ms (fun ρ M' => ρ = some (0, if (ndA L k).1 = 0 ∧ ¬ idl (CM T L p k) then 1 else 0) ∧ M' = M) := by
  have id0 := c_Told_isIdle1 (d := d) (mc := 0) (ms := 0) lay hT hX hk
  obtain ⟨⟨hD, hp, hx⟩, hct, hL, hC⟩ := hX
  have xx := (hL k _ (ndA_get hk)).1
  have a1 := (hD.2.2.2 k hk).1
  have l31 := hD.2.1
  obtain ⟨x, hx⟩ : ∃ x, x = (ndA L k).1 := ⟨_, rfl⟩
  rw [← hx] at xx a1 ⊢
  show Wp (d + 1) 102 0 [(2, ((65 : Nat) : Int)), (0, (k : Int))] [] M mc ms _
  by_cases q : idl (CM T L p k)
  · rw [if_pos q] at id0
    refine g_aload_n lk_102_0 rfl ?_
    refine g_getfield lk_102_1 rfl (lay.on (by decide) rfl) (v := ((66 : Nat) : Int)) (lay.rf rfl) ?_
    refine g_getfield lk_102_4 rfl (lay.on (by decide) rfl) (v := ((67 : Nat) : Int)) (lay.rf rfl) ?_
    refine g_iload_n lk_102_7 rfl ?_
    refine m_iaload (u := []) (M := M) lk_102_8 (lay.ay (by decide) rfl) (by omega) (j := k) (by omega) (v := (x : Int)) xx ?_
    refine g_if (t := 24) lk_102_9 rfl (by first | (unfold pm_inI; omega) | exact pm_and_in _ _ | exact pm_shr_in _ _ | exact pm_or_in _ _ | exact pm_xor_in _ _ | exact pm_shl_in _ _ | exact pm_cmp_in _ _ | exact pm_b8_in _ | (unfold pm_inI; split <;> omega)) (fun h1 => ?_) (fun h1 => ?_)
    · replace h1 : ¬ (x : Int) = 0 := h1
      refine g_iconst lk_102_24 ?_
      refine g_ireturn lk_102_25 (fun _ => by omega) ?_
      exact ⟨by rw [if_neg (fun w => w.2 q)], rfl⟩
    · replace h1 : ¬ (¬ (x : Int) = 0) := h1
      refine g_aload_n lk_102_12 rfl ?_
      refine g_iload_n lk_102_13 rfl ?_
      refine g_virtual (p := 65) (Qc := _) lk_102_14 rfl (Nat.le_of_ble_eq_true rfl) rfl rfl (lay.on (by decide) rfl) (Nat.le_of_ble_eq_true rfl) (Nat.le_of_ble_eq_true rfl) (Nat.zero_le _) (Nat.zero_le _) (id0) ?_
      rintro _ N2 ⟨rfl, hN2⟩
      rw [hN2]
      show Wp _ 102 17 [(2, ((65 : Nat) : Int)), (0, (k : Int))] [(0, 1)] M _ _ _
      refine g_if (t := 24) lk_102_17 rfl (by first | (unfold pm_inI; omega) | exact pm_and_in _ _ | exact pm_shr_in _ _ | exact pm_or_in _ _ | exact pm_xor_in _ _ | exact pm_shl_in _ _ | exact pm_cmp_in _ _ | exact pm_b8_in _ | (unfold pm_inI; split <;> omega)) (fun _ => ?_) (fun h => absurd (show ¬ (1 : Int) = (0 : Int) by omega) h)
      refine g_iconst lk_102_24 ?_
      refine g_ireturn lk_102_25 (fun _ => by omega) ?_
      exact ⟨by rw [if_neg (fun w => w.2 q)], rfl⟩
  · rw [if_neg q] at id0
    refine g_aload_n lk_102_0 rfl ?_
    refine g_getfield lk_102_1 rfl (lay.on (by decide) rfl) (v := ((66 : Nat) : Int)) (lay.rf rfl) ?_
    refine g_getfield lk_102_4 rfl (lay.on (by decide) rfl) (v := ((67 : Nat) : Int)) (lay.rf rfl) ?_
    refine g_iload_n lk_102_7 rfl ?_
    refine m_iaload (u := []) (M := M) lk_102_8 (lay.ay (by decide) rfl) (by omega) (j := k) (by omega) (v := (x : Int)) xx ?_
    refine g_if (t := 24) lk_102_9 rfl (by first | (unfold pm_inI; omega) | exact pm_and_in _ _ | exact pm_shr_in _ _ | exact pm_or_in _ _ | exact pm_xor_in _ _ | exact pm_shl_in _ _ | exact pm_cmp_in _ _ | exact pm_b8_in _ | (unfold pm_inI; split <;> omega)) (fun h1 => ?_) (fun h1 => ?_)
    · replace h1 : ¬ (x : Int) = 0 := h1
      refine g_iconst lk_102_24 ?_
      refine g_ireturn lk_102_25 (fun _ => by omega) ?_
      exact ⟨by rw [if_neg (fun w => absurd w.1 (by omega))], rfl⟩
    · replace h1 : ¬ (¬ (x : Int) = 0) := h1
      refine g_aload_n lk_102_12 rfl ?_
      refine g_iload_n lk_102_13 rfl ?_
      refine g_virtual (p := 65) (Qc := _) lk_102_14 rfl (Nat.le_of_ble_eq_true rfl) rfl rfl (lay.on (by decide) rfl) (Nat.le_of_ble_eq_true rfl) (Nat.le_of_ble_eq_true rfl) (Nat.zero_le _) (Nat.zero_le _) (id0) ?_
      rintro _ N2 ⟨rfl, hN2⟩
      rw [hN2]
      show Wp _ 102 17 [(2, ((65 : Nat) : Int)), (0, (k : Int))] [(0, 0)] M _ _ _
      refine g_if (t := 24) lk_102_17 rfl (by first | (unfold pm_inI; omega) | exact pm_and_in _ _ | exact pm_shr_in _ _ | exact pm_or_in _ _ | exact pm_xor_in _ _ | exact pm_shl_in _ _ | exact pm_cmp_in _ _ | exact pm_b8_in _ | (unfold pm_inI; split <;> omega)) (fun h => absurd h (show ¬ (¬ (0 : Int) = (0 : Int)) by omega)) (fun _ => ?_)
      refine g_iconst lk_102_20 ?_
      refine g_goto (t := 25) lk_102_21 rfl ?_
      refine g_ireturn lk_102_25 (fun _ => by omega) ?_
      exact ⟨by rw [if_pos ⟨by omega, q⟩], rfl⟩
theorem c_Told_leafCount1 {d mc ms : Nat} {M : pm_M} (lay : Lay M) {T : Tab} {L : List Nd} {p dp : Nat → Nat} (hX : TdAt M 65 T L p dp) :
    pm_E d 107 [(2, ((65 : Nat) : Int))] M mc ms (fun ρ M' => ρ = some (0, (tLf L : Int)) ∧ M' = M) := by
  obtain ⟨Q, hQ⟩ : ∃ Q : pm_Q, Q = (fun ρ M' => ρ = some (0, (tLf L : Int)) ∧ M' = M) := ⟨_, rfl⟩
  rw [← hQ]
  obtain ⟨⟨hD, hp, hx⟩, hct, hL, hC⟩ := hX
  have l31 := hD.2.1
  obtain ⟨f, hf⟩ : ∃ f : Nat → Nat, f = fun k => if (ndA L k).1 = 0 then 1 else 0 := ⟨_, rfl⟩
  obtain ⟨l, hl⟩ : ∃ l, l = L.length := ⟨_, rfl⟩
  rw [← hl] at hct l31
  have loop : ∀ (n i : Nat), i + n = l → Wp d 107 4 [(2, ((65 : Nat) : Int)), (0, ((sm f i : Nat) : Int)), (0, (i : Int))] [] M mc ms Q := by
    intro n
    induction n with
    | zero =>
      intro i hi
      have e : i = l := by omega
      subst e
      refine g_iload_n lk_107_4 rfl ?_
      refine g_aload_n lk_107_5 rfl ?_
      refine g_getfield lk_107_6 rfl (lay.on (by decide) rfl) (v := ((66 : Nat) : Int)) (lay.rf rfl) ?_
      refine m_getfield (u := []) (M := M) lk_107_9 rfl (lay.on (by decide) rfl) (v := (i : Int)) hct ?_
      refine g_icmp (t := 41) lk_107_12 rfl (by first | (unfold pm_inI; omega) | exact pm_and_in _ _ | exact pm_shr_in _ _ | exact pm_or_in _ _ | exact pm_xor_in _ _ | exact pm_shl_in _ _ | exact pm_cmp_in _ _ | exact pm_b8_in _ | (unfold pm_inI; split <;> omega)) (by first | (unfold pm_inI; omega) | exact pm_and_in _ _ | exact pm_shr_in _ _ | exact pm_or_in _ _ | exact pm_xor_in _ _ | exact pm_shl_in _ _ | exact pm_cmp_in _ _ | exact pm_b8_in _ | (unfold pm_inI; split <;> omega)) (fun h1 => ?_) (fun h1 => ?_)
      · replace h1 : (i : Int) ≤ (i : Int) := h1
        refine g_iload_n lk_107_41 rfl ?_
        refine g_ireturn lk_107_42 (fun h => absurd h (by decide)) ?_
        rw [hQ]
        exact ⟨by unfold tLf; rw [← hl, hf], rfl⟩
      · replace h1 : ¬ ((i : Int) ≤ (i : Int)) := h1
        omega
    | succ n ih =>
      intro i hi
      have hk : i < L.length := by omega
      have xx := (hL i _ (ndA_get hk)).1
      have a1 := (hD.2.2.2 i hk).1
      have fi : f i = if (ndA L i).1 = 0 then 1 else 0 := by rw [hf]
      obtain ⟨x, hx⟩ : ∃ x, x = (ndA L i).1 := ⟨_, rfl⟩
      rw [← hx] at xx a1 fi
      have go : ∀ z : Int, z = ((sm f i + f i : Nat) : Int) → Wp d 107 4 [(2, ((65 : Nat) : Int)), (0, z), (0, (i : Int) + 1)] [] M mc ms Q := fun z hz => by
        rw [hz]; exact ih (i + 1) (by omega)
      refine g_iload_n lk_107_4 rfl ?_
      refine g_aload_n lk_107_5 rfl ?_
      refine g_getfield lk_107_6 rfl (lay.on (by decide) rfl) (v := ((66 : Nat) : Int)) (lay.rf rfl) ?_
      refine m_getfield (u := []) (M := M) lk_107_9 rfl (lay.on (by decide) rfl) (v := (l : Int)) hct ?_
      refine g_icmp (t := 41) lk_107_12 rfl (by first | (unfold pm_inI; omega) | exact pm_and_in _ _ | exact pm_shr_in _ _ | exact pm_or_in _ _ | exact pm_xor_in _ _ | exact pm_shl_in _ _ | exact pm_cmp_in _ _ | exact pm_b8_in _ | (unfold pm_inI; split <;> omega)) (by first | (unfold pm_inI; omega) | exact pm_and_in _ _ | exact pm_shr_in _ _ | exact pm_or_in _ _ | exact pm_xor_in _ _ | exact pm_shl_in _ _ | exact pm_cmp_in _ _ | exact pm_b8_in _ | (unfold pm_inI; split <;> omega)) (fun h1 => ?_) (fun h1 => ?_)
      · replace h1 : (l : Int) ≤ (i : Int) := h1
        omega
      · replace h1 : ¬ ((l : Int) ≤ (i : Int)) := h1
        refine g_iload_n lk_107_15 rfl ?_
        refine g_aload_n lk_107_16 rfl ?_
        refine g_getfield lk_107_17 rfl (lay.on (by decide) rfl) (v := ((66 : Nat) : Int)) (lay.rf rfl) ?_
        refine g_getfield lk_107_20 rfl (lay.on (by decide) rfl) (v := ((67 : Nat) : Int)) (lay.rf rfl) ?_
        refine g_iload_n lk_107_23 rfl ?_
        refine m_iaload (u := []) (M := M) lk_107_24 (lay.ay (by decide) rfl) (by omega) (j := i) (by omega) (v := (x : Int)) xx ?_
        refine g_if (t := 32) lk_107_25 rfl (by first | (unfold pm_inI; omega) | exact pm_and_in _ _ | exact pm_shr_in _ _ | exact pm_or_in _ _ | exact pm_xor_in _ _ | exact pm_shl_in _ _ | exact pm_cmp_in _ _ | exact pm_b8_in _ | (unfold pm_inI; split <;> omega)) (fun h2 => ?_) (fun h2 => ?_)
        · replace h2 : ¬ (x : Int) = 0 := h2
          refine g_iconst lk_107_32 ?_
          refine g_iadd lk_107_33 ?_
          refine g_istore_n (ls' := [(2, ((65 : Nat) : Int)), (0, (((sm f i : Nat) : Int) + 0)), (0, (i : Int))]) lk_107_34 rfl rfl ?_
          refine g_iinc (ls' := [(2, ((65 : Nat) : Int)), (0, (((sm f i : Nat) : Int) + 0)), (0, ((i : Int) + 1))]) lk_107_35 rfl rfl rfl ?_
          refine g_goto (t := 4) lk_107_38 rfl ?_
          exact go _ (by rw [fi, if_neg (by omega)]; omega)
        · replace h2 : ¬ (¬ (x : Int) = 0) := h2
          refine g_iconst lk_107_28 ?_
          refine g_goto (t := 33) lk_107_29 rfl ?_
          refine g_iadd lk_107_33 ?_
          refine g_istore_n (ls' := [(2, ((65 : Nat) : Int)), (0, (((sm f i : Nat) : Int) + 1)), (0, (i : Int))]) lk_107_34 rfl rfl ?_
          refine g_iinc (ls' := [(2, ((65 : Nat) : Int)), (0, (((sm f i : Nat) : Int) + 1)), (0, ((i : Int) + 1))]) lk_107_35 rfl rfl rfl ?_
          refine g_goto (t := 4) lk_107_38 rfl ?_
          exact go _ (by rw [fi, if_pos (by omega)]; omega)
  show Wp d 107 0 [(2, ((65 : Nat) : Int)), (9, 0), (9, 0)] [] M mc ms Q
  refine g_iconst lk_107_0 ?_
  refine g_istore_n (ls' := [(2, ((65 : Nat) : Int)), (0, 0), (9, 0)]) lk_107_1 rfl rfl ?_
  refine g_iconst lk_107_2 ?_
  refine g_istore_n (ls' := [(2, ((65 : Nat) : Int)), (0, 0), (0, 0)]) lk_107_3 rfl rfl ?_
  exact loop l 0 (by omega)
theorem c_Told_idleCount1 {d mc ms : Nat} {M : pm_M} (lay : Lay M) {T : Tab} (hT : TabOK T) {L : List Nd} {p dp : Nat → Nat} (hX : TdAt M 65 T L p dp) :
    pm_E (d + 1) 108 [(2, ((65 : Nat) : Int))] M mc ms (fun ρ M' => ρ = some (0, (tId T L p : Int)) ∧ M' = M) := by
  obtain ⟨Q, hQ⟩ : ∃ Q : pm_Q, Q = (fun ρ M' => ρ = some (0, (tId T L p : Int)) ∧ M' = M) := ⟨_, rfl⟩
  rw [← hQ]
  have iu := fun k hk => c_Told_isIdle1 (d := d) (mc := 0) (ms := 0) lay hT hX (k := k) hk
  obtain ⟨⟨hD, hp, hx⟩, hct, hL, hC⟩ := hX
  have l31 := hD.2.1
  obtain ⟨f, hf⟩ : ∃ f : Nat → Nat, f = fun k => if idl (CM T L p k) then 1 else 0 := ⟨_, rfl⟩
  obtain ⟨l, hl⟩ : ∃ l, l = L.length := ⟨_, rfl⟩
  rw [← hl] at hct l31
  have loop : ∀ (n i : Nat), i + n = l → Wp (d + 1) 108 4 [(2, ((65 : Nat) : Int)), (0, ((sm f i : Nat) : Int)), (0, (i : Int))] [] M mc ms Q := by
    intro n
    induction n with
    | zero =>
      intro i hi
      have e : i = l := by omega
      subst e
      refine g_iload_n lk_108_4 rfl ?_
      refine g_aload_n lk_108_5 rfl ?_
      refine g_getfield lk_108_6 rfl (lay.on (by decide) rfl) (v := ((66 : Nat) : Int)) (lay.rf rfl) ?_
      refine m_getfield (u := []) (M := M) lk_108_9 rfl (lay.on (by decide) rfl) (v := (i : Int)) hct ?_
      refine g_icmp (t := 37) lk_108_12 rfl (by first | (unfold pm_inI; omega) | exact pm_and_in _ _ | exact pm_shr_in _ _ | exact pm_or_in _ _ | exact pm_xor_in _ _ | exact pm_shl_in _ _ | exact pm_cmp_in _ _ | exact pm_b8_in _ | (unfold pm_inI; split <;> omega)) (by first | (unfold pm_inI; omega) | exact pm_and_in _ _ | exact pm_shr_in _ _ | exact pm_or_in _ _ | exact pm_xor_in _ _ | exact pm_shl_in _ _ | exact pm_cmp_in _ _ | exact pm_b8_in _ | (unfold pm_inI; split <;> omega)) (fun h1 => ?_) (fun h1 => ?_)
      · replace h1 : (i : Int) ≤ (i : Int) := h1
        refine g_iload_n lk_108_37 rfl ?_
        refine g_ireturn lk_108_38 (fun h => absurd h (by decide)) ?_
        rw [hQ]
        exact ⟨by unfold tId; rw [← hl, hf], rfl⟩
      · replace h1 : ¬ ((i : Int) ≤ (i : Int)) := h1
        omega
    | succ n ih =>
      intro i hi
      have hk : i < L.length := by omega
      have u := iu i hk
      have fi : f i = if idl (CM T L p i) then 1 else 0 := by rw [hf]
      have go : ∀ z : Int, z = ((sm f i + f i : Nat) : Int) → Wp (d + 1) 108 4 [(2, ((65 : Nat) : Int)), (0, z), (0, (i : Int) + 1)] [] M mc ms Q := fun z hz => by
        rw [hz]; exact ih (i + 1) (by omega)
      by_cases q : idl (CM T L p i)
      · rw [if_pos q] at u fi
        refine g_iload_n lk_108_4 rfl ?_
        refine g_aload_n lk_108_5 rfl ?_
        refine g_getfield lk_108_6 rfl (lay.on (by decide) rfl) (v := ((66 : Nat) : Int)) (lay.rf rfl) ?_
        refine m_getfield (u := []) (M := M) lk_108_9 rfl (lay.on (by decide) rfl) (v := (l : Int)) hct ?_
        refine g_icmp (t := 37) lk_108_12 rfl (by first | (unfold pm_inI; omega) | exact pm_and_in _ _ | exact pm_shr_in _ _ | exact pm_or_in _ _ | exact pm_xor_in _ _ | exact pm_shl_in _ _ | exact pm_cmp_in _ _ | exact pm_b8_in _ | (unfold pm_inI; split <;> omega)) (by first | (unfold pm_inI; omega) | exact pm_and_in _ _ | exact pm_shr_in _ _ | exact pm_or_in _ _ | exact pm_xor_in _ _ | exact pm_shl_in _ _ | exact pm_cmp_in _ _ | exact pm_b8_in _ | (unfold pm_inI; split <;> omega)) (fun h1 => ?_) (fun h1 => ?_)
        · replace h1 : (l : Int) ≤ (i : Int) := h1
          omega
        · replace h1 : ¬ ((l : Int) ≤ (i : Int)) := h1
          refine g_iload_n lk_108_15 rfl ?_
          refine g_aload_n lk_108_16 rfl ?_
          refine g_iload_n lk_108_17 rfl ?_
          refine g_virtual (p := 65) (Qc := _) lk_108_18 rfl (Nat.le_of_ble_eq_true rfl) rfl rfl (lay.on (by decide) rfl) (Nat.le_of_ble_eq_true rfl) (Nat.le_of_ble_eq_true rfl) (Nat.zero_le _) (Nat.zero_le _) (u) ?_
          rintro _ N2 ⟨rfl, hN2⟩
          rw [hN2]
          show Wp _ 108 21 [(2, ((65 : Nat) : Int)), (0, ((sm f i : Nat) : Int)), (0, (i : Int))] [(0, 1), (0, ((sm f i : Nat) : Int))] M _ _ _
          refine g_if (t := 28) lk_108_21 rfl (by first | (unfold pm_inI; omega) | exact pm_and_in _ _ | exact pm_shr_in _ _ | exact pm_or_in _ _ | exact pm_xor_in _ _ | exact pm_shl_in _ _ | exact pm_cmp_in _ _ | exact pm_b8_in _ | (unfold pm_inI; split <;> omega)) (fun h => absurd h (show ¬ ((1 : Int) = (0 : Int)) by omega)) (fun _ => ?_)
          refine g_iconst lk_108_24 ?_
          refine g_goto (t := 29) lk_108_25 rfl ?_
          refine g_iadd lk_108_29 ?_
          refine g_istore_n (ls' := [(2, ((65 : Nat) : Int)), (0, (((sm f i : Nat) : Int) + 1)), (0, (i : Int))]) lk_108_30 rfl rfl ?_
          refine g_iinc (ls' := [(2, ((65 : Nat) : Int)), (0, (((sm f i : Nat) : Int) + 1)), (0, ((i : Int) + 1))]) lk_108_31 rfl rfl rfl ?_
          refine g_goto (t := 4) lk_108_34 rfl ?_
          exact go _ (by rw [fi]; omega)
      · rw [if_neg q] at u fi
        refine g_iload_n lk_108_4 rfl ?_
        refine g_aload_n lk_108_5 rfl ?_
        refine g_getfield lk_108_6 rfl (lay.on (by decide) rfl) (v := ((66 : Nat) : Int)) (lay.rf rfl) ?_
        refine m_getfield (u := []) (M := M) lk_108_9 rfl (lay.on (by decide) rfl) (v := (l : Int)) hct ?_
        refine g_icmp (t := 37) lk_108_12 rfl (by first | (unfold pm_inI; omega) | exact pm_and_in _ _ | exact pm_shr_in _ _ | exact pm_or_in _ _ | exact pm_xor_in _ _ | exact pm_shl_in _ _ | exact pm_cmp_in _ _ | exact pm_b8_in _ | (unfold pm_inI; split <;> omega)) (by first | (unfold pm_inI; omega) | exact pm_and_in _ _ | exact pm_shr_in _ _ | exact pm_or_in _ _ | exact pm_xor_in _ _ | exact pm_shl_in _ _ | exact pm_cmp_in _ _ | exact pm_b8_in _ | (unfold pm_inI; split <;> omega)) (fun h1 => ?_) (fun h1 => ?_)
        · replace h1 : (l : Int) ≤ (i : Int) := h1
          omega
        · replace h1 : ¬ ((l : Int) ≤ (i : Int)) := h1
          refine g_iload_n lk_108_15 rfl ?_
          refine g_aload_n lk_108_16 rfl ?_
          refine g_iload_n lk_108_17 rfl ?_
          refine g_virtual (p := 65) (Qc := _) lk_108_18 rfl (Nat.le_of_ble_eq_true rfl) rfl rfl (lay.on (by decide) rfl) (Nat.le_of_ble_eq_true rfl) (Nat.le_of_ble_eq_true rfl) (Nat.zero_le _) (Nat.zero_le _) (u) ?_
          rintro _ N2 ⟨rfl, hN2⟩
          rw [hN2]
          show Wp _ 108 21 [(2, ((65 : Nat) : Int)), (0, ((sm f i : Nat) : Int)), (0, (i : Int))] [(0, 0), (0, ((sm f i : Nat) : Int))] M _ _ _
          refine g_if (t := 28) lk_108_21 rfl (by first | (unfold pm_inI; omega) | exact pm_and_in _ _ | exact pm_shr_in _ _ | exact pm_or_in _ _ | exact pm_xor_in _ _ | exact pm_shl_in _ _ | exact pm_cmp_in _ _ | exact pm_b8_in _ | (unfold pm_inI; split <;> omega)) (fun _ => ?_) (fun h => absurd (show (0 : Int) = (0 : Int) by omega) h)
          refine g_iconst lk_108_28 ?_
          refine g_iadd lk_108_29 ?_
          refine g_istore_n (ls' := [(2, ((65 : Nat) : Int)), (0, (((sm f i : Nat) : Int) + 0)), (0, (i : Int))]) lk_108_30 rfl rfl ?_
          refine g_iinc (ls' := [(2, ((65 : Nat) : Int)), (0, (((sm f i : Nat) : Int) + 0)), (0, ((i : Int) + 1))]) lk_108_31 rfl rfl rfl ?_
          refine g_goto (t := 4) lk_108_34 rfl ?_
          exact go _ (by rw [fi]; omega)
  show Wp (d + 1) 108 0 [(2, ((65 : Nat) : Int)), (9, 0), (9, 0)] [] M mc ms Q
  refine g_iconst lk_108_0 ?_
  refine g_istore_n (ls' := [(2, ((65 : Nat) : Int)), (0, 0), (9, 0)]) lk_108_1 rfl rfl ?_
  refine g_iconst lk_108_2 ?_
  refine g_istore_n (ls' := [(2, ((65 : Nat) : Int)), (0, 0), (0, 0)]) lk_108_3 rfl rfl ?_
  exact loop l 0 (by omega)
theorem c_Told_worstCost1 {d mc ms : Nat} {M : pm_M} (lay : Lay M) {T : Tab} (hT : TabOK T) {L : List Nd} {p dp : Nat → Nat} (hX : TdAt M 65 T L p dp) :
    pm_E (d + 2) 109 [(2, ((65 : Nat) : Int))] M mc ms (fun ρ M' => ρ = some (0, (x2 T (fun r c => wc T L r c 9 0) : Int)) ∧ M' = M) := by
  obtain ⟨Q, hQ⟩ : ∃ Q : pm_Q, Q = (fun ρ M' => ρ = some (0, (x2 T (fun r c => wc T L r c 9 0) : Int)) ∧ M' = M) := ⟨_, rfl⟩
  rw [← hQ]
  have iu := fun k hk => c_Told_isUsedLeaf1 (d := d) (mc := 0) (ms := 0) lay hT hX (k := k) hk
  obtain ⟨⟨hD, hp, hx⟩, hct, hL, hC⟩ := hX
  have l31 := hD.2.1
  have fin := x2_leaf hT hD hp (fun k => (CM T L p k).2.2.2.1) (fun r c => wc T L r c 9 0) (fun r c hr hc => (leaf_at hT hD hp hr hc).2.2.2.2.1)
  obtain ⟨f, hf⟩ : ∃ f : Nat → Nat, f = fun k => if (ndA L k).1 = 0 ∧ ¬ idl (CM T L p k) then (CM T L p k).2.2.2.1 else 0 := ⟨_, rfl⟩
  have fin2 : xm f L.length = x2 T (fun r c => wc T L r c 9 0) := by rw [hf]; exact fin
  obtain ⟨l, hl⟩ : ∃ l, l = L.length := ⟨_, rfl⟩
  rw [← hl] at hct l31 fin2
  have fb : ∀ i, i < l → f i ≤ 81 := fun i hi => by
    obtain ⟨_, _, _, b4, _, _⟩ := CM_bd hT hD hp _ _ (Nat.lt_succ_self _) (show i < L.length by omega)
    have := (hx i (by omega)).1
    rw [hf]
    show (if (ndA L i).1 = 0 ∧ ¬ idl (CM T L p i) then (CM T L p i).2.2.2.1 else 0) ≤ 81
    split <;> omega
  have loop : ∀ (n i : Nat), i + n = l → Wp (d + 2) 109 4 [(2, ((65 : Nat) : Int)), (0, ((xm f i : Nat) : Int)), (0, (i : Int))] [] M mc ms Q := by
    intro n
    induction n with
    | zero =>
      intro i hi
      have e : i = l := by omega
      subst e
      refine g_iload_n lk_109_4 rfl ?_
      refine g_aload_n lk_109_5 rfl ?_
      refine g_getfield lk_109_6 rfl (lay.on (by decide) rfl) (v := ((66 : Nat) : Int)) (lay.rf rfl) ?_
      refine m_getfield (u := []) (M := M) lk_109_9 rfl (lay.on (by decide) rfl) (v := (i : Int)) hct ?_
      refine g_icmp (t := 44) lk_109_12 rfl (by first | (unfold pm_inI; omega) | exact pm_and_in _ _ | exact pm_shr_in _ _ | exact pm_or_in _ _ | exact pm_xor_in _ _ | exact pm_shl_in _ _ | exact pm_cmp_in _ _ | exact pm_b8_in _ | (unfold pm_inI; split <;> omega)) (by first | (unfold pm_inI; omega) | exact pm_and_in _ _ | exact pm_shr_in _ _ | exact pm_or_in _ _ | exact pm_xor_in _ _ | exact pm_shl_in _ _ | exact pm_cmp_in _ _ | exact pm_b8_in _ | (unfold pm_inI; split <;> omega)) (fun h1 => ?_) (fun h1 => ?_)
      · replace h1 : (i : Int) ≤ (i : Int) := h1
        refine g_iload_n lk_109_44 rfl ?_
        refine g_ireturn lk_109_45 (fun h => absurd h (by decide)) ?_
        rw [hQ]
        exact ⟨by rw [fin2], rfl⟩
      · replace h1 : ¬ ((i : Int) ≤ (i : Int)) := h1
        omega
    | succ n ih =>
      intro i hi
      have hk : i < L.length := by omega
      have u := iu i hk
      have rd := (hC i hk).2.2.2.1
      have fi : f i = if (ndA L i).1 = 0 ∧ ¬ idl (CM T L p i) then (CM T L p i).2.2.2.1 else 0 := by rw [hf]
      have f8 := fb i (by omega)
      have x8 : xm f i ≤ 81 := xm_le (fun j hj => fb j (by omega))
      obtain ⟨a, ha⟩ : ∃ a, a = xm f i := ⟨_, rfl⟩
      have go : ∀ z : Int, z = ((max a (f i) : Nat) : Int) → Wp (d + 2) 109 4 [(2, ((65 : Nat) : Int)), (0, z), (0, (i : Int) + 1)] [] M mc ms Q := fun z hz => by
        rw [hz, ha]; exact ih (i + 1) (by omega)
      rw [← ha] at x8 ⊢
      obtain ⟨s, hs⟩ : ∃ s, s = (CM T L p i).2.2.2.1 := ⟨_, rfl⟩
      rw [← hs] at rd fi
      by_cases q : (ndA L i).1 = 0 ∧ ¬ idl (CM T L p i)
      · rw [if_pos q] at u fi
        rw [fi] at f8
        refine g_iload_n lk_109_4 rfl ?_
        refine g_aload_n lk_109_5 rfl ?_
        refine g_getfield lk_109_6 rfl (lay.on (by decide) rfl) (v := ((66 : Nat) : Int)) (lay.rf rfl) ?_
        refine m_getfield (u := []) (M := M) lk_109_9 rfl (lay.on (by decide) rfl) (v := (l : Int)) hct ?_
        refine g_icmp (t := 44) lk_109_12 rfl (by first | (unfold pm_inI; omega) | exact pm_and_in _ _ | exact pm_shr_in _ _ | exact pm_or_in _ _ | exact pm_xor_in _ _ | exact pm_shl_in _ _ | exact pm_cmp_in _ _ | exact pm_b8_in _ | (unfold pm_inI; split <;> omega)) (by first | (unfold pm_inI; omega) | exact pm_and_in _ _ | exact pm_shr_in _ _ | exact pm_or_in _ _ | exact pm_xor_in _ _ | exact pm_shl_in _ _ | exact pm_cmp_in _ _ | exact pm_b8_in _ | (unfold pm_inI; split <;> omega)) (fun h1 => ?_) (fun h1 => ?_)
        · replace h1 : (l : Int) ≤ (i : Int) := h1
          omega
        · replace h1 : ¬ ((l : Int) ≤ (i : Int)) := h1
          refine g_aload_n lk_109_15 rfl ?_
          refine g_iload_n lk_109_16 rfl ?_
          refine g_virtual (p := 65) (Qc := _) lk_109_17 rfl (Nat.le_of_ble_eq_true rfl) rfl rfl (lay.on (by decide) rfl) (Nat.le_of_ble_eq_true rfl) (Nat.le_of_ble_eq_true rfl) (Nat.zero_le _) (Nat.zero_le _) (u) ?_
          rintro _ N2 ⟨rfl, hN2⟩
          rw [hN2]
          show Wp _ 109 20 [(2, ((65 : Nat) : Int)), (0, (a : Int)), (0, (i : Int))] [(0, 1)] M _ _ _
          refine g_if (t := 36) lk_109_20 rfl (by first | (unfold pm_inI; omega) | exact pm_and_in _ _ | exact pm_shr_in _ _ | exact pm_or_in _ _ | exact pm_xor_in _ _ | exact pm_shl_in _ _ | exact pm_cmp_in _ _ | exact pm_b8_in _ | (unfold pm_inI; split <;> omega)) (fun h => absurd h (show ¬ ((1 : Int) = (0 : Int)) by omega)) (fun _ => ?_)
          refine g_iload_n lk_109_23 rfl ?_
          refine g_aload_n lk_109_24 rfl ?_
          refine g_getfield lk_109_25 rfl (lay.on (by decide) rfl) (v := ((73 : Nat) : Int)) (lay.rf rfl) ?_
          refine g_iload_n lk_109_28 rfl ?_
          refine m_iaload (u := []) (M := M) lk_109_29 (lay.ay (by decide) rfl) (by omega) (j := i) (by omega) (v := (s : Int)) rd ?_
          refine g_mmax lk_109_30 (by first | (unfold pm_inI; omega) | exact pm_and_in _ _ | exact pm_shr_in _ _ | exact pm_or_in _ _ | exact pm_xor_in _ _ | exact pm_shl_in _ _ | exact pm_cmp_in _ _ | exact pm_b8_in _ | (unfold pm_inI; split <;> omega)) (by first | (unfold pm_inI; omega) | exact pm_and_in _ _ | exact pm_shr_in _ _ | exact pm_or_in _ _ | exact pm_xor_in _ _ | exact pm_shl_in _ _ | exact pm_cmp_in _ _ | exact pm_b8_in _ | (unfold pm_inI; split <;> omega)) (Nat.le_of_ble_eq_true rfl) ?_
          refine g_goto (t := 37) lk_109_33 rfl ?_
          refine g_istore_n (ls' := [(2, ((65 : Nat) : Int)), (0, (max (a : Int) (s : Int))), (0, (i : Int))]) lk_109_37 rfl rfl ?_
          refine g_iinc (ls' := [(2, ((65 : Nat) : Int)), (0, (max (a : Int) (s : Int))), (0, ((i : Int) + 1))]) lk_109_38 rfl rfl rfl ?_
          refine g_goto (t := 4) lk_109_41 rfl ?_
          exact go _ (by rw [fi]; omega)
      · rw [if_neg q] at u fi
        refine g_iload_n lk_109_4 rfl ?_
        refine g_aload_n lk_109_5 rfl ?_
        refine g_getfield lk_109_6 rfl (lay.on (by decide) rfl) (v := ((66 : Nat) : Int)) (lay.rf rfl) ?_
        refine m_getfield (u := []) (M := M) lk_109_9 rfl (lay.on (by decide) rfl) (v := (l : Int)) hct ?_
        refine g_icmp (t := 44) lk_109_12 rfl (by first | (unfold pm_inI; omega) | exact pm_and_in _ _ | exact pm_shr_in _ _ | exact pm_or_in _ _ | exact pm_xor_in _ _ | exact pm_shl_in _ _ | exact pm_cmp_in _ _ | exact pm_b8_in _ | (unfold pm_inI; split <;> omega)) (by first | (unfold pm_inI; omega) | exact pm_and_in _ _ | exact pm_shr_in _ _ | exact pm_or_in _ _ | exact pm_xor_in _ _ | exact pm_shl_in _ _ | exact pm_cmp_in _ _ | exact pm_b8_in _ | (unfold pm_inI; split <;> omega)) (fun h1 => ?_) (fun h1 => ?_)
        · replace h1 : (l : Int) ≤ (i : Int) := h1
          omega
        · replace h1 : ¬ ((l : Int) ≤ (i : Int)) := h1
          refine g_aload_n lk_109_15 rfl ?_
          refine g_iload_n lk_109_16 rfl ?_
          refine g_virtual (p := 65) (Qc := _) lk_109_17 rfl (Nat.le_of_ble_eq_true rfl) rfl rfl (lay.on (by decide) rfl) (Nat.le_of_ble_eq_true rfl) (Nat.le_of_ble_eq_true rfl) (Nat.zero_le _) (Nat.zero_le _) (u) ?_
          rintro _ N2 ⟨rfl, hN2⟩
          rw [hN2]
          show Wp _ 109 20 [(2, ((65 : Nat) : Int)), (0, (a : Int)), (0, (i : Int))] [(0, 0)] M _ _ _
          refine g_if (t := 36) lk_109_20 rfl (by first | (unfold pm_inI; omega) | exact pm_and_in _ _ | exact pm_shr_in _ _ | exact pm_or_in _ _ | exact pm_xor_in _ _ | exact pm_shl_in _ _ | exact pm_cmp_in _ _ | exact pm_b8_in _ | (unfold pm_inI; split <;> omega)) (fun _ => ?_) (fun h => absurd (show (0 : Int) = (0 : Int) by omega) h)
          refine g_iload_n lk_109_36 rfl ?_
          refine g_istore_n (ls' := [(2, ((65 : Nat) : Int)), (0, (a : Int)), (0, (i : Int))]) lk_109_37 rfl rfl ?_
          refine g_iinc (ls' := [(2, ((65 : Nat) : Int)), (0, (a : Int)), (0, ((i : Int) + 1))]) lk_109_38 rfl rfl rfl ?_
          refine g_goto (t := 4) lk_109_41 rfl ?_
          exact go _ (by rw [fi]; omega)
  show Wp (d + 2) 109 0 [(2, ((65 : Nat) : Int)), (9, 0), (9, 0)] [] M mc ms Q
  refine g_iconst lk_109_0 ?_
  refine g_istore_n (ls' := [(2, ((65 : Nat) : Int)), (0, 0), (9, 0)]) lk_109_1 rfl rfl ?_
  refine g_iconst lk_109_2 ?_
  refine g_istore_n (ls' := [(2, ((65 : Nat) : Int)), (0, 0), (0, 0)]) lk_109_3 rfl rfl ?_
  exact loop l 0 (by omega)
theorem c_Told_mostTurns1 {d mc ms : Nat} {M : pm_M} (lay : Lay M) {T : Tab} (hT : TabOK T) {L : List Nd} {p dp : Nat → Nat} (hX : TdAt M 65 T L p dp) :
    pm_E (d + 2) 110 [(2, ((65 : Nat) : Int))] M mc ms (fun ρ M' => ρ = some (0, (x2 T (fun r c => wt L r c 9 0 0) : Int)) ∧ M' = M) := by
  obtain ⟨Q, hQ⟩ : ∃ Q : pm_Q, Q = (fun ρ M' => ρ = some (0, (x2 T (fun r c => wt L r c 9 0 0) : Int)) ∧ M' = M) := ⟨_, rfl⟩
  rw [← hQ]
  have iu := fun k hk => c_Told_isUsedLeaf1 (d := d) (mc := 0) (ms := 0) lay hT hX (k := k) hk
  obtain ⟨⟨hD, hp, hx⟩, hct, hL, hC⟩ := hX
  have l31 := hD.2.1
  have fin := x2_leaf hT hD hp (fun k => (CM T L p k).2.2.2.2.1) (fun r c => wt L r c 9 0 0) (fun r c hr hc => (leaf_at hT hD hp hr hc).2.2.2.2.2.1)
  obtain ⟨f, hf⟩ : ∃ f : Nat → Nat, f = fun k => if (ndA L k).1 = 0 ∧ ¬ idl (CM T L p k) then (CM T L p k).2.2.2.2.1 else 0 := ⟨_, rfl⟩
  have fin2 : xm f L.length = x2 T (fun r c => wt L r c 9 0 0) := by rw [hf]; exact fin
  obtain ⟨l, hl⟩ : ∃ l, l = L.length := ⟨_, rfl⟩
  rw [← hl] at hct l31 fin2
  have fb : ∀ i, i < l → f i ≤ 81 := fun i hi => by
    obtain ⟨_, _, _, _, b5, _⟩ := CM_bd hT hD hp _ _ (Nat.lt_succ_self _) (show i < L.length by omega)
    have := (hx i (by omega)).1
    rw [hf]
    show (if (ndA L i).1 = 0 ∧ ¬ idl (CM T L p i) then (CM T L p i).2.2.2.2.1 else 0) ≤ 81
    split <;> omega
  have loop : ∀ (n i : Nat), i + n = l → Wp (d + 2) 110 4 [(2, ((65 : Nat) : Int)), (0, ((xm f i : Nat) : Int)), (0, (i : Int))] [] M mc ms Q := by
    intro n
    induction n with
    | zero =>
      intro i hi
      have e : i = l := by omega
      subst e
      refine g_iload_n lk_110_4 rfl ?_
      refine g_aload_n lk_110_5 rfl ?_
      refine g_getfield lk_110_6 rfl (lay.on (by decide) rfl) (v := ((66 : Nat) : Int)) (lay.rf rfl) ?_
      refine m_getfield (u := []) (M := M) lk_110_9 rfl (lay.on (by decide) rfl) (v := (i : Int)) hct ?_
      refine g_icmp (t := 44) lk_110_12 rfl (by first | (unfold pm_inI; omega) | exact pm_and_in _ _ | exact pm_shr_in _ _ | exact pm_or_in _ _ | exact pm_xor_in _ _ | exact pm_shl_in _ _ | exact pm_cmp_in _ _ | exact pm_b8_in _ | (unfold pm_inI; split <;> omega)) (by first | (unfold pm_inI; omega) | exact pm_and_in _ _ | exact pm_shr_in _ _ | exact pm_or_in _ _ | exact pm_xor_in _ _ | exact pm_shl_in _ _ | exact pm_cmp_in _ _ | exact pm_b8_in _ | (unfold pm_inI; split <;> omega)) (fun h1 => ?_) (fun h1 => ?_)
      · replace h1 : (i : Int) ≤ (i : Int) := h1
        refine g_iload_n lk_110_44 rfl ?_
        refine g_ireturn lk_110_45 (fun h => absurd h (by decide)) ?_
        rw [hQ]
        exact ⟨by rw [fin2], rfl⟩
      · replace h1 : ¬ ((i : Int) ≤ (i : Int)) := h1
        omega
    | succ n ih =>
      intro i hi
      have hk : i < L.length := by omega
      have u := iu i hk
      have rd := (hC i hk).2.2.2.2.1
      have fi : f i = if (ndA L i).1 = 0 ∧ ¬ idl (CM T L p i) then (CM T L p i).2.2.2.2.1 else 0 := by rw [hf]
      have f8 := fb i (by omega)
      have x8 : xm f i ≤ 81 := xm_le (fun j hj => fb j (by omega))
      obtain ⟨a, ha⟩ : ∃ a, a = xm f i := ⟨_, rfl⟩
      have go : ∀ z : Int, z = ((max a (f i) : Nat) : Int) → Wp (d + 2) 110 4 [(2, ((65 : Nat) : Int)), (0, z), (0, (i : Int) + 1)] [] M mc ms Q := fun z hz => by
        rw [hz, ha]; exact ih (i + 1) (by omega)
      rw [← ha] at x8 ⊢
      obtain ⟨s, hs⟩ : ∃ s, s = (CM T L p i).2.2.2.2.1 := ⟨_, rfl⟩
      rw [← hs] at rd fi
      by_cases q : (ndA L i).1 = 0 ∧ ¬ idl (CM T L p i)
      · rw [if_pos q] at u fi
        rw [fi] at f8
        refine g_iload_n lk_110_4 rfl ?_
        refine g_aload_n lk_110_5 rfl ?_
        refine g_getfield lk_110_6 rfl (lay.on (by decide) rfl) (v := ((66 : Nat) : Int)) (lay.rf rfl) ?_
        refine m_getfield (u := []) (M := M) lk_110_9 rfl (lay.on (by decide) rfl) (v := (l : Int)) hct ?_
        refine g_icmp (t := 44) lk_110_12 rfl (by first | (unfold pm_inI; omega) | exact pm_and_in _ _ | exact pm_shr_in _ _ | exact pm_or_in _ _ | exact pm_xor_in _ _ | exact pm_shl_in _ _ | exact pm_cmp_in _ _ | exact pm_b8_in _ | (unfold pm_inI; split <;> omega)) (by first | (unfold pm_inI; omega) | exact pm_and_in _ _ | exact pm_shr_in _ _ | exact pm_or_in _ _ | exact pm_xor_in _ _ | exact pm_shl_in _ _ | exact pm_cmp_in _ _ | exact pm_b8_in _ | (unfold pm_inI; split <;> omega)) (fun h1 => ?_) (fun h1 => ?_)
        · replace h1 : (l : Int) ≤ (i : Int) := h1
          omega
        · replace h1 : ¬ ((l : Int) ≤ (i : Int)) := h1
          refine g_aload_n lk_110_15 rfl ?_
          refine g_iload_n lk_110_16 rfl ?_
          refine g_virtual (p := 65) (Qc := _) lk_110_17 rfl (Nat.le_of_ble_eq_true rfl) rfl rfl (lay.on (by decide) rfl) (Nat.le_of_ble_eq_true rfl) (Nat.le_of_ble_eq_true rfl) (Nat.zero_le _) (Nat.zero_le _) (u) ?_
          rintro _ N2 ⟨rfl, hN2⟩
          rw [hN2]
          show Wp _ 110 20 [(2, ((65 : Nat) : Int)), (0, (a : Int)), (0, (i : Int))] [(0, 1)] M _ _ _
          refine g_if (t := 36) lk_110_20 rfl (by first | (unfold pm_inI; omega) | exact pm_and_in _ _ | exact pm_shr_in _ _ | exact pm_or_in _ _ | exact pm_xor_in _ _ | exact pm_shl_in _ _ | exact pm_cmp_in _ _ | exact pm_b8_in _ | (unfold pm_inI; split <;> omega)) (fun h => absurd h (show ¬ ((1 : Int) = (0 : Int)) by omega)) (fun _ => ?_)
          refine g_iload_n lk_110_23 rfl ?_
          refine g_aload_n lk_110_24 rfl ?_
          refine g_getfield lk_110_25 rfl (lay.on (by decide) rfl) (v := ((74 : Nat) : Int)) (lay.rf rfl) ?_
          refine g_iload_n lk_110_28 rfl ?_
          refine m_iaload (u := []) (M := M) lk_110_29 (lay.ay (by decide) rfl) (by omega) (j := i) (by omega) (v := (s : Int)) rd ?_
          refine g_mmax lk_110_30 (by first | (unfold pm_inI; omega) | exact pm_and_in _ _ | exact pm_shr_in _ _ | exact pm_or_in _ _ | exact pm_xor_in _ _ | exact pm_shl_in _ _ | exact pm_cmp_in _ _ | exact pm_b8_in _ | (unfold pm_inI; split <;> omega)) (by first | (unfold pm_inI; omega) | exact pm_and_in _ _ | exact pm_shr_in _ _ | exact pm_or_in _ _ | exact pm_xor_in _ _ | exact pm_shl_in _ _ | exact pm_cmp_in _ _ | exact pm_b8_in _ | (unfold pm_inI; split <;> omega)) (Nat.le_of_ble_eq_true rfl) ?_
          refine g_goto (t := 37) lk_110_33 rfl ?_
          refine g_istore_n (ls' := [(2, ((65 : Nat) : Int)), (0, (max (a : Int) (s : Int))), (0, (i : Int))]) lk_110_37 rfl rfl ?_
          refine g_iinc (ls' := [(2, ((65 : Nat) : Int)), (0, (max (a : Int) (s : Int))), (0, ((i : Int) + 1))]) lk_110_38 rfl rfl rfl ?_
          refine g_goto (t := 4) lk_110_41 rfl ?_
          exact go _ (by rw [fi]; omega)
      · rw [if_neg q] at u fi
        refine g_iload_n lk_110_4 rfl ?_
        refine g_aload_n lk_110_5 rfl ?_
        refine g_getfield lk_110_6 rfl (lay.on (by decide) rfl) (v := ((66 : Nat) : Int)) (lay.rf rfl) ?_
        refine m_getfield (u := []) (M := M) lk_110_9 rfl (lay.on (by decide) rfl) (v := (l : Int)) hct ?_
        refine g_icmp (t := 44) lk_110_12 rfl (by first | (unfold pm_inI; omega) | exact pm_and_in _ _ | exact pm_shr_in _ _ | exact pm_or_in _ _ | exact pm_xor_in _ _ | exact pm_shl_in _ _ | exact pm_cmp_in _ _ | exact pm_b8_in _ | (unfold pm_inI; split <;> omega)) (by first | (unfold pm_inI; omega) | exact pm_and_in _ _ | exact pm_shr_in _ _ | exact pm_or_in _ _ | exact pm_xor_in _ _ | exact pm_shl_in _ _ | exact pm_cmp_in _ _ | exact pm_b8_in _ | (unfold pm_inI; split <;> omega)) (fun h1 => ?_) (fun h1 => ?_)
        · replace h1 : (l : Int) ≤ (i : Int) := h1
          omega
        · replace h1 : ¬ ((l : Int) ≤ (i : Int)) := h1
          refine g_aload_n lk_110_15 rfl ?_
          refine g_iload_n lk_110_16 rfl ?_
          refine g_virtual (p := 65) (Qc := _) lk_110_17 rfl (Nat.le_of_ble_eq_true rfl) rfl rfl (lay.on (by decide) rfl) (Nat.le_of_ble_eq_true rfl) (Nat.le_of_ble_eq_true rfl) (Nat.zero_le _) (Nat.zero_le _) (u) ?_
          rintro _ N2 ⟨rfl, hN2⟩
          rw [hN2]
          show Wp _ 110 20 [(2, ((65 : Nat) : Int)), (0, (a : Int)), (0, (i : Int))] [(0, 0)] M _ _ _
          refine g_if (t := 36) lk_110_20 rfl (by first | (unfold pm_inI; omega) | exact pm_and_in _ _ | exact pm_shr_in _ _ | exact pm_or_in _ _ | exact pm_xor_in _ _ | exact pm_shl_in _ _ | exact pm_cmp_in _ _ | exact pm_b8_in _ | (unfold pm_inI; split <;> omega)) (fun _ => ?_) (fun h => absurd (show (0 : Int) = (0 : Int) by omega) h)
          refine g_iload_n lk_110_36 rfl ?_
          refine g_istore_n (ls' := [(2, ((65 : Nat) : Int)), (0, (a : Int)), (0, (i : Int))]) lk_110_37 rfl rfl ?_
          refine g_iinc (ls' := [(2, ((65 : Nat) : Int)), (0, (a : Int)), (0, ((i : Int) + 1))]) lk_110_38 rfl rfl rfl ?_
          refine g_goto (t := 4) lk_110_41 rfl ?_
          exact go _ (by rw [fi]; omega)
  show Wp (d + 2) 110 0 [(2, ((65 : Nat) : Int)), (9, 0), (9, 0)] [] M mc ms Q
  refine g_iconst lk_110_0 ?_
  refine g_istore_n (ls' := [(2, ((65 : Nat) : Int)), (0, 0), (9, 0)]) lk_110_1 rfl rfl ?_
  refine g_iconst lk_110_2 ?_
  refine g_istore_n (ls' := [(2, ((65 : Nat) : Int)), (0, 0), (0, 0)]) lk_110_3 rfl rfl ?_
  exact loop l 0 (by omega)
theorem c_Told_sumOfCosts1 {d mc ms : Nat} {M : pm_M} (lay : Lay M) {T : Tab} (hT : TabOK T) (hM : TbAt M 24 T) {L : List Nd} {p dp : Nat → Nat} (hX : TdAt M 65 T L p dp) :
    pm_E (d + 5) 111 [(2, ((65 : Nat) : Int)), (2, ((24 : Nat) : Int))] M mc ms (fun ρ M' => ρ = some (0, (tSum T L : Int)) ∧ M' = M) := by
  obtain ⟨Q, hQ⟩ : ∃ Q : pm_Q, Q = (fun ρ M' => ρ = some (0, (tSum T L : Int)) ∧ M' = M) := ⟨_, rfl⟩
  rw [← hQ]
  have iu := fun k hk => c_Told_isUsedLeaf1 (d := d + 3) (mc := 0) (ms := 0) lay hT hX (k := k) hk
  obtain ⟨⟨hD, hp, hx⟩, hct, hL, hC⟩ := hX
  have l31 := hD.2.1
  have fin := tSum_eq2 hT hD hp
  obtain ⟨f, hf⟩ : ∃ f : Nat → Nat, f = fun k => if (ndA L k).1 = 0 ∧ ¬ idl (CM T L p k) then (CM T L p k).2.2.2.1 * nA T (CM T L p k).1 (CM T L p k).2.1 else 0 := ⟨_, rfl⟩
  rw [← hf] at fin
  obtain ⟨l, hl⟩ : ∃ l, l = L.length := ⟨_, rfl⟩
  rw [← hl] at hct l31 fin
  have loop : ∀ (n i : Nat), i + n = l → Wp (d + 5) 111 4 [(2, ((65 : Nat) : Int)), (2, ((24 : Nat) : Int)), (0, ((sm f i : Nat) : Int)), (0, (i : Int))] [] M mc ms Q := by
    intro n
    induction n with
    | zero =>
      intro i hi
      have e : i = l := by omega
      subst e
      refine g_iload_n lk_111_4 rfl ?_
      refine g_aload_n lk_111_5 rfl ?_
      refine g_getfield lk_111_6 rfl (lay.on (by decide) rfl) (v := ((66 : Nat) : Int)) (lay.rf rfl) ?_
      refine m_getfield (u := []) (M := M) lk_111_9 rfl (lay.on (by decide) rfl) (v := (i : Int)) hct ?_
      refine g_icmp (t := 55) lk_111_12 rfl (by first | (unfold pm_inI; omega) | exact pm_and_in _ _ | exact pm_shr_in _ _ | exact pm_or_in _ _ | exact pm_xor_in _ _ | exact pm_shl_in _ _ | exact pm_cmp_in _ _ | exact pm_b8_in _ | (unfold pm_inI; split <;> omega)) (by first | (unfold pm_inI; omega) | exact pm_and_in _ _ | exact pm_shr_in _ _ | exact pm_or_in _ _ | exact pm_xor_in _ _ | exact pm_shl_in _ _ | exact pm_cmp_in _ _ | exact pm_b8_in _ | (unfold pm_inI; split <;> omega)) (fun h1 => ?_) (fun h1 => ?_)
      · replace h1 : (i : Int) ≤ (i : Int) := h1
        refine g_iload_n lk_111_55 rfl ?_
        refine g_ireturn lk_111_56 (fun h => absurd h (by decide)) ?_
        rw [hQ]
        exact ⟨by rw [fin], rfl⟩
      · replace h1 : ¬ ((i : Int) ≤ (i : Int)) := h1
        omega
    | succ n ih =>
      intro i hi
      have hk : i < L.length := by omega
      have u := iu i hk
      obtain ⟨rd1, rd2, _, rd4, _⟩ := hC i hk
      obtain ⟨b1, b2, _, _, _, _⟩ := CM_bd hT hD hp _ _ (Nat.lt_succ_self _) hk
      have fi : f i = if (ndA L i).1 = 0 ∧ ¬ idl (CM T L p i) then (CM T L p i).2.2.2.1 * nA T (CM T L p i).1 (CM T L p i).2.1 else 0 := by rw [hf]
      have go : ∀ z : Int, z = ((sm f i + f i : Nat) : Int) → Wp (d + 5) 111 4 [(2, ((65 : Nat) : Int)), (2, ((24 : Nat) : Int)), (0, z), (0, (i : Int) + 1)] [] M mc ms Q := fun z hz => by
        rw [hz]; exact ih (i + 1) (by omega)
      obtain ⟨e, he⟩ : ∃ e, e = CM T L p i := ⟨_, rfl⟩
      rw [← he] at rd1 rd2 rd4 fi b1 b2
      have r6 := lt_64_of hT.1.2 b1
      have c6 := lt_64_of hT.2.1.2 b2
      have fl := c_Table_filledIn (d := d) (mc := 0) (ms := 0) lay (Or.inr rfl) hT hM r6 c6
      rw [uIn_nU hT c6, nU_10] at fl
      by_cases q : (ndA L i).1 = 0 ∧ ¬ idl (CM T L p i)
      · rw [if_pos q] at u
        rw [if_pos (by rw [he]; exact q)] at fi
        refine g_iload_n lk_111_4 rfl ?_
        refine g_aload_n lk_111_5 rfl ?_
        refine g_getfield lk_111_6 rfl (lay.on (by decide) rfl) (v := ((66 : Nat) : Int)) (lay.rf rfl) ?_
        refine m_getfield (u := []) (M := M) lk_111_9 rfl (lay.on (by decide) rfl) (v := (l : Int)) hct ?_
        refine g_icmp (t := 55) lk_111_12 rfl (by first | (unfold pm_inI; omega) | exact pm_and_in _ _ | exact pm_shr_in _ _ | exact pm_or_in _ _ | exact pm_xor_in _ _ | exact pm_shl_in _ _ | exact pm_cmp_in _ _ | exact pm_b8_in _ | (unfold pm_inI; split <;> omega)) (by first | (unfold pm_inI; omega) | exact pm_and_in _ _ | exact pm_shr_in _ _ | exact pm_or_in _ _ | exact pm_xor_in _ _ | exact pm_shl_in _ _ | exact pm_cmp_in _ _ | exact pm_b8_in _ | (unfold pm_inI; split <;> omega)) (fun h1 => ?_) (fun h1 => ?_)
        · replace h1 : (l : Int) ≤ (i : Int) := h1
          omega
        · replace h1 : ¬ ((l : Int) ≤ (i : Int)) := h1
          refine g_aload_n lk_111_15 rfl ?_
          refine g_iload_n lk_111_16 rfl ?_
          refine g_virtual (p := 65) (Qc := _) lk_111_17 rfl (Nat.le_of_ble_eq_true rfl) rfl rfl (lay.on (by decide) rfl) (Nat.le_of_ble_eq_true rfl) (Nat.le_of_ble_eq_true rfl) (Nat.zero_le _) (Nat.zero_le _) (u) ?_
          rintro _ N2 ⟨rfl, hN2⟩
          rw [hN2]
          show Wp _ 111 20 [(2, ((65 : Nat) : Int)), (2, ((24 : Nat) : Int)), (0, ((sm f i : Nat) : Int)), (0, (i : Int))] [(0, 1)] M _ _ _
          refine g_if (t := 49) lk_111_20 rfl (by first | (unfold pm_inI; omega) | exact pm_and_in _ _ | exact pm_shr_in _ _ | exact pm_or_in _ _ | exact pm_xor_in _ _ | exact pm_shl_in _ _ | exact pm_cmp_in _ _ | exact pm_b8_in _ | (unfold pm_inI; split <;> omega)) (fun h => absurd h (show ¬ ((1 : Int) = (0 : Int)) by omega)) (fun _ => ?_)
          refine g_iload_n lk_111_23 rfl ?_
          refine g_aload_n lk_111_24 rfl ?_
          refine g_getfield lk_111_25 rfl (lay.on (by decide) rfl) (v := ((73 : Nat) : Int)) (lay.rf rfl) ?_
          refine g_iload_n lk_111_28 rfl ?_
          refine m_iaload (u := []) (M := M) lk_111_29 (lay.ay (by decide) rfl) (by omega) (j := i) (by omega) (v := (e.2.2.2.1 : Int)) rd4 ?_
          refine g_aload_n lk_111_30 rfl ?_
          refine g_aload_n lk_111_31 rfl ?_
          refine g_getfield lk_111_32 rfl (lay.on (by decide) rfl) (v := ((70 : Nat) : Int)) (lay.rf rfl) ?_
          refine g_iload_n lk_111_35 rfl ?_
          refine m_iaload (u := []) (M := M) lk_111_36 (lay.ay (by decide) rfl) (by omega) (j := i) (by omega) (v := (e.1 : Int)) rd1 ?_
          refine g_aload_n lk_111_37 rfl ?_
          refine g_getfield lk_111_38 rfl (lay.on (by decide) rfl) (v := ((71 : Nat) : Int)) (lay.rf rfl) ?_
          refine g_iload_n lk_111_41 rfl ?_
          refine m_iaload (u := []) (M := M) lk_111_42 (lay.ay (by decide) rfl) (by omega) (j := i) (by omega) (v := (e.2.1 : Int)) rd2 ?_
          refine g_virtual (p := 24) (Qc := _) lk_111_43 rfl (Nat.le_of_ble_eq_true rfl) rfl rfl (lay.on (by decide) rfl) (Nat.le_of_ble_eq_true rfl) (Nat.le_of_ble_eq_true rfl) (Nat.zero_le _) (Nat.zero_le _) (fl) ?_
          rintro _ N3 ⟨rfl, hN3⟩
          rw [hN3]
          show Wp _ 111 46 [(2, ((65 : Nat) : Int)), (2, ((24 : Nat) : Int)), (0, ((sm f i : Nat) : Int)), (0, (i : Int))] [(0, (nA T e.1 e.2.1 : Int)), (0, (e.2.2.2.1 : Int)), (0, ((sm f i : Nat) : Int))] M _ _ _
          refine g_imul lk_111_46 ?_
          refine g_iadd lk_111_47 ?_
          refine g_istore_n (ls' := [(2, ((65 : Nat) : Int)), (2, ((24 : Nat) : Int)), (0, (((sm f i : Nat) : Int) + ((e.2.2.2.1 : Int) * (nA T e.1 e.2.1 : Int)))), (0, (i : Int))]) lk_111_48 rfl rfl ?_
          refine g_iinc (ls' := [(2, ((65 : Nat) : Int)), (2, ((24 : Nat) : Int)), (0, (((sm f i : Nat) : Int) + ((e.2.2.2.1 : Int) * (nA T e.1 e.2.1 : Int)))), (0, ((i : Int) + 1))]) lk_111_49 rfl rfl rfl ?_
          refine g_goto (t := 4) lk_111_52 rfl ?_
          exact go _ (by rw [fi, Int.natCast_add, Int.natCast_mul])
      · rw [if_neg q] at u
        rw [if_neg (by rw [he]; exact q)] at fi
        refine g_iload_n lk_111_4 rfl ?_
        refine g_aload_n lk_111_5 rfl ?_
        refine g_getfield lk_111_6 rfl (lay.on (by decide) rfl) (v := ((66 : Nat) : Int)) (lay.rf rfl) ?_
        refine m_getfield (u := []) (M := M) lk_111_9 rfl (lay.on (by decide) rfl) (v := (l : Int)) hct ?_
        refine g_icmp (t := 55) lk_111_12 rfl (by first | (unfold pm_inI; omega) | exact pm_and_in _ _ | exact pm_shr_in _ _ | exact pm_or_in _ _ | exact pm_xor_in _ _ | exact pm_shl_in _ _ | exact pm_cmp_in _ _ | exact pm_b8_in _ | (unfold pm_inI; split <;> omega)) (by first | (unfold pm_inI; omega) | exact pm_and_in _ _ | exact pm_shr_in _ _ | exact pm_or_in _ _ | exact pm_xor_in _ _ | exact pm_shl_in _ _ | exact pm_cmp_in _ _ | exact pm_b8_in _ | (unfold pm_inI; split <;> omega)) (fun h1 => ?_) (fun h1 => ?_)
        · replace h1 : (l : Int) ≤ (i : Int) := h1
          omega
        · replace h1 : ¬ ((l : Int) ≤ (i : Int)) := h1
          refine g_aload_n lk_111_15 rfl ?_
          refine g_iload_n lk_111_16 rfl ?_
          refine g_virtual (p := 65) (Qc := _) lk_111_17 rfl (Nat.le_of_ble_eq_true rfl) rfl rfl (lay.on (by decide) rfl) (Nat.le_of_ble_eq_true rfl) (Nat.le_of_ble_eq_true rfl) (Nat.zero_le _) (Nat.zero_le _) (u) ?_
          rintro _ N2 ⟨rfl, hN2⟩
          rw [hN2]
          show Wp _ 111 20 [(2, ((65 : Nat) : Int)), (2, ((24 : Nat) : Int)), (0, ((sm f i : Nat) : Int)), (0, (i : Int))] [(0, 0)] M _ _ _
          refine g_if (t := 49) lk_111_20 rfl (by first | (unfold pm_inI; omega) | exact pm_and_in _ _ | exact pm_shr_in _ _ | exact pm_or_in _ _ | exact pm_xor_in _ _ | exact pm_shl_in _ _ | exact pm_cmp_in _ _ | exact pm_b8_in _ | (unfold pm_inI; split <;> omega)) (fun _ => ?_) (fun h => absurd (show (0 : Int) = (0 : Int) by omega) h)
          refine g_iinc (ls' := [(2, ((65 : Nat) : Int)), (2, ((24 : Nat) : Int)), (0, ((sm f i : Nat) : Int)), (0, ((i : Int) + 1))]) lk_111_49 rfl rfl rfl ?_
          refine g_goto (t := 4) lk_111_52 rfl ?_
          exact go _ (by rw [fi]; omega)
  show Wp (d + 5) 111 0 [(2, ((65 : Nat) : Int)), (2, ((24 : Nat) : Int)), (9, 0), (9, 0)] [] M mc ms Q
  refine g_iconst lk_111_0 ?_
  refine g_istore_n (ls' := [(2, ((65 : Nat) : Int)), (2, ((24 : Nat) : Int)), (0, 0), (9, 0)]) lk_111_1 rfl rfl ?_
  refine g_iconst lk_111_2 ?_
  refine g_istore_n (ls' := [(2, ((65 : Nat) : Int)), (2, ((24 : Nat) : Int)), (0, 0), (0, 0)]) lk_111_3 rfl rfl ?_
  exact loop l 0 (by omega)
theorem c_Told_wrongAbove1 {d mc ms : Nat} {M : pm_M} (lay : Lay M) {T : Tab} (hT : TabOK T) (hM : TbAt M 24 T) {L : List Nd} {p dp : Nat → Nat} (hX : TdAt M 65 T L p dp) {g : Nat} (hg : g ≤ 9) :
    pm_E (d + 4) 112 [(2, ((65 : Nat) : Int)), (2, ((24 : Nat) : Int)), (0, (g : Int))] M mc ms (fun ρ M' => ρ = some (0, (tWro T L g : Int)) ∧ M' = M) := by
  obtain ⟨Q, hQ⟩ : ∃ Q : pm_Q, Q = (fun ρ M' => ρ = some (0, (tWro T L g : Int)) ∧ M' = M) := ⟨_, rfl⟩
  rw [← hQ]
  have iu := fun k hk => c_Told_isUsedLeaf1 (d := d + 2) (mc := 0) (ms := 0) lay hT hX (k := k) hk
  obtain ⟨⟨hD, hp, hx⟩, hct, hL, hC⟩ := hX
  have l31 := hD.2.1
  have fin := tWro_eq2 hT hD hp g
  obtain ⟨f, hf⟩ : ∃ f : Nat → Nat, f = fun k => if ((ndA L k).1 = 0 ∧ ¬ idl (CM T L p k)) ∧ (CM T L p k).2.2.1 < g then nU T (CM T L p k).1 (CM T L p k).2.1 (ndA L k).2.1 else 0 := ⟨_, rfl⟩
  rw [← hf] at fin
  obtain ⟨l, hl⟩ : ∃ l, l = L.length := ⟨_, rfl⟩
  rw [← hl] at hct l31 fin
  have loop : ∀ (n i : Nat), i + n = l → Wp (d + 4) 112 5 [(2, ((65 : Nat) : Int)), (2, ((24 : Nat) : Int)), (0, (g : Int)), (0, ((sm f i : Nat) : Int)), (0, (i : Int))] [] M mc ms Q := by
    intro n
    induction n with
    | zero =>
      intro i hi
      have e : i = l := by omega
      subst e
      refine g_iload lk_112_5 rfl ?_
      refine g_aload_n lk_112_7 rfl ?_
      refine g_getfield lk_112_8 rfl (lay.on (by decide) rfl) (v := ((66 : Nat) : Int)) (lay.rf rfl) ?_
      refine m_getfield (u := []) (M := M) lk_112_11 rfl (lay.on (by decide) rfl) (v := (i : Int)) hct ?_
      refine g_icmp (t := 74) lk_112_14 rfl (by first | (unfold pm_inI; omega) | exact pm_and_in _ _ | exact pm_shr_in _ _ | exact pm_or_in _ _ | exact pm_xor_in _ _ | exact pm_shl_in _ _ | exact pm_cmp_in _ _ | exact pm_b8_in _ | (unfold pm_inI; split <;> omega)) (by first | (unfold pm_inI; omega) | exact pm_and_in _ _ | exact pm_shr_in _ _ | exact pm_or_in _ _ | exact pm_xor_in _ _ | exact pm_shl_in _ _ | exact pm_cmp_in _ _ | exact pm_b8_in _ | (unfold pm_inI; split <;> omega)) (fun h1 => ?_) (fun h1 => ?_)
      · replace h1 : (i : Int) ≤ (i : Int) := h1
        refine g_iload_n lk_112_74 rfl ?_
        refine g_ireturn lk_112_75 (fun h => absurd h (by decide)) ?_
        rw [hQ]
        exact ⟨by rw [fin], rfl⟩
      · replace h1 : ¬ ((i : Int) ≤ (i : Int)) := h1
        omega
    | succ n ih =>
      intro i hi
      have hk : i < L.length := by omega
      have u := iu i hk
      have xx := (hL i _ (ndA_get hk)).2.1
      obtain ⟨d8, v9⟩ := hx i hk
      obtain ⟨rd1, rd2, rd3, _, _⟩ := hC i hk
      obtain ⟨b1, b2, b3, _, _, _⟩ := CM_bd hT hD hp _ _ (Nat.lt_succ_self _) hk
      have fi : f i = if ((ndA L i).1 = 0 ∧ ¬ idl (CM T L p i)) ∧ (CM T L p i).2.2.1 < g then nU T (CM T L p i).1 (CM T L p i).2.1 (ndA L i).2.1 else 0 := by rw [hf]
      have go : ∀ z : Int, z = ((sm f i + f i : Nat) : Int) → Wp (d + 4) 112 5 [(2, ((65 : Nat) : Int)), (2, ((24 : Nat) : Int)), (0, (g : Int)), (0, z), (0, (i : Int) + 1)] [] M mc ms Q := fun z hz => by
        rw [hz]; exact ih (i + 1) (by omega)
      obtain ⟨e, he⟩ : ∃ e, e = CM T L p i := ⟨_, rfl⟩
      rw [← he] at rd1 rd2 rd3 fi b1 b2 b3
      have r6 := lt_64_of hT.1.2 b1
      have c6 := lt_64_of hT.2.1.2 b2
      obtain ⟨v, hv⟩ : ∃ v, v = (ndA L i).2.1 := ⟨_, rfl⟩
      rw [← hv] at xx fi v9
      by_cases q : (ndA L i).1 = 0 ∧ ¬ idl (CM T L p i)
      · have v99 := v9 q.1
        have fl := c_Table_unlikeIn (d := d) (mc := 0) (ms := 0) lay (Or.inr rfl) hT hM r6 c6 (v := v) (by omega)
        rw [uIn_nU hT c6] at fl
        rw [if_pos q] at u
        clear v9
        refine g_iload lk_112_5 rfl ?_
        refine g_aload_n lk_112_7 rfl ?_
        refine g_getfield lk_112_8 rfl (lay.on (by decide) rfl) (v := ((66 : Nat) : Int)) (lay.rf rfl) ?_
        refine m_getfield (u := []) (M := M) lk_112_11 rfl (lay.on (by decide) rfl) (v := (l : Int)) hct ?_
        refine g_icmp (t := 74) lk_112_14 rfl (by first | (unfold pm_inI; omega) | exact pm_and_in _ _ | exact pm_shr_in _ _ | exact pm_or_in _ _ | exact pm_xor_in _ _ | exact pm_shl_in _ _ | exact pm_cmp_in _ _ | exact pm_b8_in _ | (unfold pm_inI; split <;> omega)) (by first | (unfold pm_inI; omega) | exact pm_and_in _ _ | exact pm_shr_in _ _ | exact pm_or_in _ _ | exact pm_xor_in _ _ | exact pm_shl_in _ _ | exact pm_cmp_in _ _ | exact pm_b8_in _ | (unfold pm_inI; split <;> omega)) (fun h1 => ?_) (fun h1 => ?_)
        · replace h1 : (l : Int) ≤ (i : Int) := h1
          omega
        · replace h1 : ¬ ((l : Int) ≤ (i : Int)) := h1
          refine g_aload_n lk_112_17 rfl ?_
          refine g_iload lk_112_18 rfl ?_
          refine g_virtual (p := 65) (Qc := _) lk_112_20 rfl (Nat.le_of_ble_eq_true rfl) rfl rfl (lay.on (by decide) rfl) (Nat.le_of_ble_eq_true rfl) (Nat.le_of_ble_eq_true rfl) (Nat.zero_le _) (Nat.zero_le _) (u) ?_
          rintro _ N2 ⟨rfl, hN2⟩
          rw [hN2]
          show Wp _ 112 23 [(2, ((65 : Nat) : Int)), (2, ((24 : Nat) : Int)), (0, (g : Int)), (0, ((sm f i : Nat) : Int)), (0, (i : Int))] [(0, 1)] M _ _ _
          refine g_if (t := 68) lk_112_23 rfl (by first | (unfold pm_inI; omega) | exact pm_and_in _ _ | exact pm_shr_in _ _ | exact pm_or_in _ _ | exact pm_xor_in _ _ | exact pm_shl_in _ _ | exact pm_cmp_in _ _ | exact pm_b8_in _ | (unfold pm_inI; split <;> omega)) (fun h => absurd h (show ¬ ((1 : Int) = (0 : Int)) by omega)) (fun _ => ?_)
          refine g_aload_n lk_112_26 rfl ?_
          refine g_getfield lk_112_27 rfl (lay.on (by decide) rfl) (v := ((72 : Nat) : Int)) (lay.rf rfl) ?_
          refine g_iload lk_112_30 rfl ?_
          refine m_iaload (u := []) (M := M) lk_112_32 (lay.ay (by decide) rfl) (by omega) (j := i) (by omega) (v := (e.2.2.1 : Int)) rd3 ?_
          refine g_iload_n lk_112_33 rfl ?_
          refine g_icmp (t := 68) lk_112_34 rfl (by first | (unfold pm_inI; omega) | exact pm_and_in _ _ | exact pm_shr_in _ _ | exact pm_or_in _ _ | exact pm_xor_in _ _ | exact pm_shl_in _ _ | exact pm_cmp_in _ _ | exact pm_b8_in _ | (unfold pm_inI; split <;> omega)) (by first | (unfold pm_inI; omega) | exact pm_and_in _ _ | exact pm_shr_in _ _ | exact pm_or_in _ _ | exact pm_xor_in _ _ | exact pm_shl_in _ _ | exact pm_cmp_in _ _ | exact pm_b8_in _ | (unfold pm_inI; split <;> omega)) (fun h3 => ?_) (fun h3 => ?_)
          · replace h3 : (g : Int) ≤ (e.2.2.1 : Int) := h3
            refine g_iinc (ls' := [(2, ((65 : Nat) : Int)), (2, ((24 : Nat) : Int)), (0, (g : Int)), (0, ((sm f i : Nat) : Int)), (0, ((i : Int) + 1))]) lk_112_68 rfl rfl rfl ?_
            refine g_goto (t := 5) lk_112_71 rfl ?_
            exact go _ (by rw [fi, if_neg (fun w => absurd w.2 (by omega))]; omega)
          · replace h3 : ¬ ((g : Int) ≤ (e.2.2.1 : Int)) := h3
            refine g_iload_n lk_112_37 rfl ?_
            refine g_aload_n lk_112_38 rfl ?_
            refine g_aload_n lk_112_39 rfl ?_
            refine g_getfield lk_112_40 rfl (lay.on (by decide) rfl) (v := ((70 : Nat) : Int)) (lay.rf rfl) ?_
            refine g_iload lk_112_43 rfl ?_
            refine m_iaload (u := []) (M := M) lk_112_45 (lay.ay (by decide) rfl) (by omega) (j := i) (by omega) (v := (e.1 : Int)) rd1 ?_
            refine g_aload_n lk_112_46 rfl ?_
            refine g_getfield lk_112_47 rfl (lay.on (by decide) rfl) (v := ((71 : Nat) : Int)) (lay.rf rfl) ?_
            refine g_iload lk_112_50 rfl ?_
            refine m_iaload (u := []) (M := M) lk_112_52 (lay.ay (by decide) rfl) (by omega) (j := i) (by omega) (v := (e.2.1 : Int)) rd2 ?_
            refine g_aload_n lk_112_53 rfl ?_
            refine g_getfield lk_112_54 rfl (lay.on (by decide) rfl) (v := ((66 : Nat) : Int)) (lay.rf rfl) ?_
            refine g_getfield lk_112_57 rfl (lay.on (by decide) rfl) (v := ((68 : Nat) : Int)) (lay.rf rfl) ?_
            refine g_iload lk_112_60 rfl ?_
            refine m_iaload (u := []) (M := M) lk_112_62 (lay.ay (by decide) rfl) (by omega) (j := i) (by omega) (v := (v : Int)) xx ?_
            refine g_virtual (p := 24) (Qc := _) lk_112_63 rfl (Nat.le_of_ble_eq_true rfl) rfl rfl (lay.on (by decide) rfl) (Nat.le_of_ble_eq_true rfl) (Nat.le_of_ble_eq_true rfl) (Nat.zero_le _) (Nat.zero_le _) (fl) ?_
            rintro _ N4 ⟨rfl, hN4⟩
            rw [hN4]
            show Wp _ 112 66 [(2, ((65 : Nat) : Int)), (2, ((24 : Nat) : Int)), (0, (g : Int)), (0, ((sm f i : Nat) : Int)), (0, (i : Int))] [(0, (nU T e.1 e.2.1 v : Int)), (0, ((sm f i : Nat) : Int))] M _ _ _
            refine g_iadd lk_112_66 ?_
            refine g_istore_n (ls' := [(2, ((65 : Nat) : Int)), (2, ((24 : Nat) : Int)), (0, (g : Int)), (0, (((sm f i : Nat) : Int) + (nU T e.1 e.2.1 v : Int))), (0, (i : Int))]) lk_112_67 rfl rfl ?_
            refine g_iinc (ls' := [(2, ((65 : Nat) : Int)), (2, ((24 : Nat) : Int)), (0, (g : Int)), (0, (((sm f i : Nat) : Int) + (nU T e.1 e.2.1 v : Int))), (0, ((i : Int) + 1))]) lk_112_68 rfl rfl rfl ?_
            refine g_goto (t := 5) lk_112_71 rfl ?_
            exact go _ (by rw [fi, if_pos ⟨by rw [he]; exact q, by omega⟩, Int.natCast_add])
      · rw [if_neg q] at u
        rw [if_neg (by rw [he]; exact fun w => q w.1)] at fi
        clear v9
        refine g_iload lk_112_5 rfl ?_
        refine g_aload_n lk_112_7 rfl ?_
        refine g_getfield lk_112_8 rfl (lay.on (by decide) rfl) (v := ((66 : Nat) : Int)) (lay.rf rfl) ?_
        refine m_getfield (u := []) (M := M) lk_112_11 rfl (lay.on (by decide) rfl) (v := (l : Int)) hct ?_
        refine g_icmp (t := 74) lk_112_14 rfl (by first | (unfold pm_inI; omega) | exact pm_and_in _ _ | exact pm_shr_in _ _ | exact pm_or_in _ _ | exact pm_xor_in _ _ | exact pm_shl_in _ _ | exact pm_cmp_in _ _ | exact pm_b8_in _ | (unfold pm_inI; split <;> omega)) (by first | (unfold pm_inI; omega) | exact pm_and_in _ _ | exact pm_shr_in _ _ | exact pm_or_in _ _ | exact pm_xor_in _ _ | exact pm_shl_in _ _ | exact pm_cmp_in _ _ | exact pm_b8_in _ | (unfold pm_inI; split <;> omega)) (fun h1 => ?_) (fun h1 => ?_)
        · replace h1 : (l : Int) ≤ (i : Int) := h1
          omega
        · replace h1 : ¬ ((l : Int) ≤ (i : Int)) := h1
          refine g_aload_n lk_112_17 rfl ?_
          refine g_iload lk_112_18 rfl ?_
          refine g_virtual (p := 65) (Qc := _) lk_112_20 rfl (Nat.le_of_ble_eq_true rfl) rfl rfl (lay.on (by decide) rfl) (Nat.le_of_ble_eq_true rfl) (Nat.le_of_ble_eq_true rfl) (Nat.zero_le _) (Nat.zero_le _) (u) ?_
          rintro _ N2 ⟨rfl, hN2⟩
          rw [hN2]
          show Wp _ 112 23 [(2, ((65 : Nat) : Int)), (2, ((24 : Nat) : Int)), (0, (g : Int)), (0, ((sm f i : Nat) : Int)), (0, (i : Int))] [(0, 0)] M _ _ _
          refine g_if (t := 68) lk_112_23 rfl (by first | (unfold pm_inI; omega) | exact pm_and_in _ _ | exact pm_shr_in _ _ | exact pm_or_in _ _ | exact pm_xor_in _ _ | exact pm_shl_in _ _ | exact pm_cmp_in _ _ | exact pm_b8_in _ | (unfold pm_inI; split <;> omega)) (fun _ => ?_) (fun h => absurd (show (0 : Int) = (0 : Int) by omega) h)
          refine g_iinc (ls' := [(2, ((65 : Nat) : Int)), (2, ((24 : Nat) : Int)), (0, (g : Int)), (0, ((sm f i : Nat) : Int)), (0, ((i : Int) + 1))]) lk_112_68 rfl rfl rfl ?_
          refine g_goto (t := 5) lk_112_71 rfl ?_
          exact go _ (by rw [fi]; omega)
  show Wp (d + 4) 112 0 [(2, ((65 : Nat) : Int)), (2, ((24 : Nat) : Int)), (0, (g : Int)), (9, 0), (9, 0)] [] M mc ms Q
  refine g_iconst lk_112_0 ?_
  refine g_istore_n (ls' := [(2, ((65 : Nat) : Int)), (2, ((24 : Nat) : Int)), (0, (g : Int)), (0, 0), (9, 0)]) lk_112_1 rfl rfl ?_
  refine g_iconst lk_112_2 ?_
  refine g_istore (ls' := [(2, ((65 : Nat) : Int)), (2, ((24 : Nat) : Int)), (0, (g : Int)), (0, 0), (0, 0)]) lk_112_3 rfl rfl ?_
  exact loop l 0 (by omega)
theorem c_Told_isIdle2 {d mc ms : Nat} {M : pm_M} (lay : Lay M) {T : Tab} (hT : TabOK T) {L : List Nd} {p dp : Nat → Nat} (hX : TdAt M 76 T L p dp) {k : Nat} (hk : k < L.length) :
    pm_E d 101 [(2, ((76 : Nat) : Int)), (0, (k : Int))] M mc ms (fun ρ M' => ρ = some (0, if idl (CM T L p k) then 1 else 0) ∧ M' = M) := by
  obtain ⟨⟨hD, hp, hx⟩, hct, hL, hC⟩ := hX
  obtain ⟨b1, b2, _, _, _, _⟩ := CM_bd hT hD hp _ _ (Nat.lt_succ_self _) hk
  have r6 := lt_64_of hT.1.2 b1
  have c6 := lt_64_of hT.2.1.2 b2
  obtain ⟨c1, c2, _⟩ := hC k hk
  have l31 := hD.2.1
  obtain ⟨e, he⟩ : ∃ e, e = CM T L p k := ⟨_, rfl⟩
  rw [← he] at r6 c6 c1 c2 ⊢
  show Wp d 101 0 [(2, ((76 : Nat) : Int)), (0, (k : Int))] [] M mc ms _
  refine g_aload_n lk_101_0 rfl ?_
  refine g_getfield lk_101_1 rfl (lay.on (by decide) rfl) (v := ((81 : Nat) : Int)) (lay.rf rfl) ?_
  refine g_iload_n lk_101_4 rfl ?_
  refine m_iaload (u := []) (M := M) lk_101_5 (lay.ay (by decide) rfl) (by omega) (j := k) (by omega) (v := (e.1 : Int)) c1 ?_
  refine g_if (t := 18) lk_101_6 rfl (by first | (unfold pm_inI; omega) | exact pm_and_in _ _ | exact pm_shr_in _ _ | exact pm_or_in _ _ | exact pm_xor_in _ _ | exact pm_shl_in _ _ | exact pm_cmp_in _ _ | exact pm_b8_in _ | (unfold pm_inI; split <;> omega)) (fun h1 => ?_) (fun h1 => ?_)
  · replace h1 : (e.1 : Int) = 0 := h1
    refine g_iconst lk_101_18 ?_
    refine g_goto (t := 23) lk_101_19 rfl ?_
    refine g_ireturn lk_101_23 (fun _ => by omega) ?_
    exact ⟨by rw [if_pos (Or.inl (by omega))], rfl⟩
  · replace h1 : ¬ ((e.1 : Int) = 0) := h1
    refine g_aload_n lk_101_9 rfl ?_
    refine g_getfield lk_101_10 rfl (lay.on (by decide) rfl) (v := ((82 : Nat) : Int)) (lay.rf rfl) ?_
    refine g_iload_n lk_101_13 rfl ?_
    refine m_iaload (u := []) (M := M) lk_101_14 (lay.ay (by decide) rfl) (by omega) (j := k) (by omega) (v := (e.2.1 : Int)) c2 ?_
    refine g_if (t := 22) lk_101_15 rfl (by first | (unfold pm_inI; omega) | exact pm_and_in _ _ | exact pm_shr_in _ _ | exact pm_or_in _ _ | exact pm_xor_in _ _ | exact pm_shl_in _ _ | exact pm_cmp_in _ _ | exact pm_b8_in _ | (unfold pm_inI; split <;> omega)) (fun h2 => ?_) (fun h2 => ?_)
    · replace h2 : ¬ (e.2.1 : Int) = 0 := h2
      refine g_iconst lk_101_22 ?_
      refine g_ireturn lk_101_23 (fun _ => by omega) ?_
      exact ⟨by rw [if_neg (by omega)], rfl⟩
    · replace h2 : ¬ (¬ (e.2.1 : Int) = 0) := h2
      refine g_iconst lk_101_18 ?_
      refine g_goto (t := 23) lk_101_19 rfl ?_
      refine g_ireturn lk_101_23 (fun _ => by omega) ?_
      exact ⟨by rw [if_pos (Or.inr (by omega))], rfl⟩
theorem c_Told_isUsedLeaf2 {d mc ms : Nat} {M : pm_M} (lay : Lay M) {T : Tab} (hT : TabOK T) {L : List Nd} {p dp : Nat → Nat} (hX : TdAt M 76 T L p dp) {k : Nat} (hk : k < L.length) :
    pm_E (d + 1) 102 [(2, ((76 : Nat) : Int)), (0, (k : Int))] M mc ms (fun ρ M' => ρ = some (0, if (ndA L k).1 = 0 ∧ ¬ idl (CM T L p k) then 1 else 0) ∧ M' = M) := by
  have id0 := c_Told_isIdle2 (d := d) (mc := 0) (ms := 0) lay hT hX hk
  obtain ⟨⟨hD, hp, hx⟩, hct, hL, hC⟩ := hX
  have xx := (hL k _ (ndA_get hk)).1
  have a1 := (hD.2.2.2 k hk).1
  have l31 := hD.2.1
  obtain ⟨x, hx⟩ : ∃ x, x = (ndA L k).1 := ⟨_, rfl⟩
  rw [← hx] at xx a1 ⊢
  show Wp (d + 1) 102 0 [(2, ((76 : Nat) : Int)), (0, (k : Int))] [] M mc ms _
  by_cases q : idl (CM T L p k)
  · rw [if_pos q] at id0
    refine g_aload_n lk_102_0 rfl ?_
    refine g_getfield lk_102_1 rfl (lay.on (by decide) rfl) (v := ((77 : Nat) : Int)) (lay.rf rfl) ?_
    refine g_getfield lk_102_4 rfl (lay.on (by decide) rfl) (v := ((78 : Nat) : Int)) (lay.rf rfl) ?_
    refine g_iload_n lk_102_7 rfl ?_
    refine m_iaload (u := []) (M := M) lk_102_8 (lay.ay (by decide) rfl) (by omega) (j := k) (by omega) (v := (x : Int)) xx ?_
    refine g_if (t := 24) lk_102_9 rfl (by first | (unfold pm_inI; omega) | exact pm_and_in _ _ | exact pm_shr_in _ _ | exact pm_or_in _ _ | exact pm_xor_in _ _ | exact pm_shl_in _ _ | exact pm_cmp_in _ _ | exact pm_b8_in _ | (unfold pm_inI; split <;> omega)) (fun h1 => ?_) (fun h1 => ?_)
    · replace h1 : ¬ (x : Int) = 0 := h1
      refine g_iconst lk_102_24 ?_
      refine g_ireturn lk_102_25 (fun _ => by omega) ?_
      exact ⟨by rw [if_neg (fun w => w.2 q)], rfl⟩
    · replace h1 : ¬ (¬ (x : Int) = 0) := h1
      refine g_aload_n lk_102_12 rfl ?_
      refine g_iload_n lk_102_13 rfl ?_
      refine g_virtual (p := 76) (Qc := _) lk_102_14 rfl (Nat.le_of_ble_eq_true rfl) rfl rfl (lay.on (by decide) rfl) (Nat.le_of_ble_eq_true rfl) (Nat.le_of_ble_eq_true rfl) (Nat.zero_le _) (Nat.zero_le _) (id0) ?_
      rintro _ N2 ⟨rfl, hN2⟩
      rw [hN2]
      show Wp _ 102 17 [(2, ((76 : Nat) : Int)), (0, (k : Int))] [(0, 1)] M _ _ _
      refine g_if (t := 24) lk_102_17 rfl (by first | (unfold pm_inI; omega) | exact pm_and_in _ _ | exact pm_shr_in _ _ | exact pm_or_in _ _ | exact pm_xor_in _ _ | exact pm_shl_in _ _ | exact pm_cmp_in _ _ | exact pm_b8_in _ | (unfold pm_inI; split <;> omega)) (fun _ => ?_) (fun h => absurd (show ¬ (1 : Int) = (0 : Int) by omega) h)
      refine g_iconst lk_102_24 ?_
      refine g_ireturn lk_102_25 (fun _ => by omega) ?_
      exact ⟨by rw [if_neg (fun w => w.2 q)], rfl⟩
  · rw [if_neg q] at id0
    refine g_aload_n lk_102_0 rfl ?_
    refine g_getfield lk_102_1 rfl (lay.on (by decide) rfl) (v := ((77 : Nat) : Int)) (lay.rf rfl) ?_
    refine g_getfield lk_102_4 rfl (lay.on (by decide) rfl) (v := ((78 : Nat) : Int)) (lay.rf rfl) ?_
    refine g_iload_n lk_102_7 rfl ?_
    refine m_iaload (u := []) (M := M) lk_102_8 (lay.ay (by decide) rfl) (by omega) (j := k) (by omega) (v := (x : Int)) xx ?_
    refine g_if (t := 24) lk_102_9 rfl (by first | (unfold pm_inI; omega) | exact pm_and_in _ _ | exact pm_shr_in _ _ | exact pm_or_in _ _ | exact pm_xor_in _ _ | exact pm_shl_in _ _ | exact pm_cmp_in _ _ | exact pm_b8_in _ | (unfold pm_inI; split <;> omega)) (fun h1 => ?_) (fun h1 => ?_)
    · replace h1 : ¬ (x : Int) = 0 := h1
      refine g_iconst lk_102_24 ?_
      refine g_ireturn lk_102_25 (fun _ => by omega) ?_
      exact ⟨by rw [if_neg (fun w => absurd w.1 (by omega))], rfl⟩
    · replace h1 : ¬ (¬ (x : Int) = 0) := h1
      refine g_aload_n lk_102_12 rfl ?_
      refine g_iload_n lk_102_13 rfl ?_
      refine g_virtual (p := 76) (Qc := _) lk_102_14 rfl (Nat.le_of_ble_eq_true rfl) rfl rfl (lay.on (by decide) rfl) (Nat.le_of_ble_eq_true rfl) (Nat.le_of_ble_eq_true rfl) (Nat.zero_le _) (Nat.zero_le _) (id0) ?_
      rintro _ N2 ⟨rfl, hN2⟩
      rw [hN2]
      show Wp _ 102 17 [(2, ((76 : Nat) : Int)), (0, (k : Int))] [(0, 0)] M _ _ _
      refine g_if (t := 24) lk_102_17 rfl (by first | (unfold pm_inI; omega) | exact pm_and_in _ _ | exact pm_shr_in _ _ | exact pm_or_in _ _ | exact pm_xor_in _ _ | exact pm_shl_in _ _ | exact pm_cmp_in _ _ | exact pm_b8_in _ | (unfold pm_inI; split <;> omega)) (fun h => absurd h (show ¬ (¬ (0 : Int) = (0 : Int)) by omega)) (fun _ => ?_)
      refine g_iconst lk_102_20 ?_
      refine g_goto (t := 25) lk_102_21 rfl ?_
      refine g_ireturn lk_102_25 (fun _ => by omega) ?_
      exact ⟨by rw [if_pos ⟨by omega, q⟩], rfl⟩
theorem c_Told_leafCount2 {d mc ms : Nat} {M : pm_M} (lay : Lay M) {T : Tab} {L : List Nd} {p dp : Nat → Nat} (hX : TdAt M 76 T L p dp) :
    pm_E d 107 [(2, ((76 : Nat) : Int))] M mc ms (fun ρ M' => ρ = some (0, (tLf L : Int)) ∧ M' = M) := by
  obtain ⟨Q, hQ⟩ : ∃ Q : pm_Q, Q = (fun ρ M' => ρ = some (0, (tLf L : Int)) ∧ M' = M) := ⟨_, rfl⟩
  rw [← hQ]
  obtain ⟨⟨hD, hp, hx⟩, hct, hL, hC⟩ := hX
  have l31 := hD.2.1
  obtain ⟨f, hf⟩ : ∃ f : Nat → Nat, f = fun k => if (ndA L k).1 = 0 then 1 else 0 := ⟨_, rfl⟩
  obtain ⟨l, hl⟩ : ∃ l, l = L.length := ⟨_, rfl⟩
  rw [← hl] at hct l31
  have loop : ∀ (n i : Nat), i + n = l → Wp d 107 4 [(2, ((76 : Nat) : Int)), (0, ((sm f i : Nat) : Int)), (0, (i : Int))] [] M mc ms Q := by
    intro n
    induction n with
    | zero =>
      intro i hi
      have e : i = l := by omega
      subst e
      refine g_iload_n lk_107_4 rfl ?_
      refine g_aload_n lk_107_5 rfl ?_
      refine g_getfield lk_107_6 rfl (lay.on (by decide) rfl) (v := ((77 : Nat) : Int)) (lay.rf rfl) ?_
      refine m_getfield (u := []) (M := M) lk_107_9 rfl (lay.on (by decide) rfl) (v := (i : Int)) hct ?_
      refine g_icmp (t := 41) lk_107_12 rfl (by first | (unfold pm_inI; omega) | exact pm_and_in _ _ | exact pm_shr_in _ _ | exact pm_or_in _ _ | exact pm_xor_in _ _ | exact pm_shl_in _ _ | exact pm_cmp_in _ _ | exact pm_b8_in _ | (unfold pm_inI; split <;> omega)) (by first | (unfold pm_inI; omega) | exact pm_and_in _ _ | exact pm_shr_in _ _ | exact pm_or_in _ _ | exact pm_xor_in _ _ | exact pm_shl_in _ _ | exact pm_cmp_in _ _ | exact pm_b8_in _ | (unfold pm_inI; split <;> omega)) (fun h1 => ?_) (fun h1 => ?_)
      · replace h1 : (i : Int) ≤ (i : Int) := h1
        refine g_iload_n lk_107_41 rfl ?_
        refine g_ireturn lk_107_42 (fun h => absurd h (by decide)) ?_
        rw [hQ]
        exact ⟨by unfold tLf; rw [← hl, hf], rfl⟩
      · replace h1 : ¬ ((i : Int) ≤ (i : Int)) := h1
        omega
    | succ n ih =>
      intro i hi
      have hk : i < L.length := by omega
      have xx := (hL i _ (ndA_get hk)).1
      have a1 := (hD.2.2.2 i hk).1
      have fi : f i = if (ndA L i).1 = 0 then 1 else 0 := by rw [hf]
      obtain ⟨x, hx⟩ : ∃ x, x = (ndA L i).1 := ⟨_, rfl⟩
      rw [← hx] at xx a1 fi
      have go : ∀ z : Int, z = ((sm f i + f i : Nat) : Int) → Wp d 107 4 [(2, ((76 : Nat) : Int)), (0, z), (0, (i : Int) + 1)] [] M mc ms Q := fun z hz => by
        rw [hz]; exact ih (i + 1) (by omega)
      refine g_iload_n lk_107_4 rfl ?_
      refine g_aload_n lk_107_5 rfl ?_
      refine g_getfield lk_107_6 rfl (lay.on (by decide) rfl) (v := ((77 : Nat) : Int)) (lay.rf rfl) ?_
      refine m_getfield (u := []) (M := M) lk_107_9 rfl (lay.on (by decide) rfl) (v := (l : Int)) hct ?_
      refine g_icmp (t := 41) lk_107_12 rfl (by first | (unfold pm_inI; omega) | exact pm_and_in _ _ | exact pm_shr_in _ _ | exact pm_or_in _ _ | exact pm_xor_in _ _ | exact pm_shl_in _ _ | exact pm_cmp_in _ _ | exact pm_b8_in _ | (unfold pm_inI; split <;> omega)) (by first | (unfold pm_inI; omega) | exact pm_and_in _ _ | exact pm_shr_in _ _ | exact pm_or_in _ _ | exact pm_xor_in _ _ | exact pm_shl_in _ _ | exact pm_cmp_in _ _ | exact pm_b8_in _ | (unfold pm_inI; split <;> omega)) (fun h1 => ?_) (fun h1 => ?_)
      · replace h1 : (l : Int) ≤ (i : Int) := h1
        omega
      · replace h1 : ¬ ((l : Int) ≤ (i : Int)) := h1
        refine g_iload_n lk_107_15 rfl ?_
        refine g_aload_n lk_107_16 rfl ?_
        refine g_getfield lk_107_17 rfl (lay.on (by decide) rfl) (v := ((77 : Nat) : Int)) (lay.rf rfl) ?_
        refine g_getfield lk_107_20 rfl (lay.on (by decide) rfl) (v := ((78 : Nat) : Int)) (lay.rf rfl) ?_
        refine g_iload_n lk_107_23 rfl ?_
        refine m_iaload (u := []) (M := M) lk_107_24 (lay.ay (by decide) rfl) (by omega) (j := i) (by omega) (v := (x : Int)) xx ?_
        refine g_if (t := 32) lk_107_25 rfl (by first | (unfold pm_inI; omega) | exact pm_and_in _ _ | exact pm_shr_in _ _ | exact pm_or_in _ _ | exact pm_xor_in _ _ | exact pm_shl_in _ _ | exact pm_cmp_in _ _ | exact pm_b8_in _ | (unfold pm_inI; split <;> omega)) (fun h2 => ?_) (fun h2 => ?_)
        · replace h2 : ¬ (x : Int) = 0 := h2
          refine g_iconst lk_107_32 ?_
          refine g_iadd lk_107_33 ?_
          refine g_istore_n (ls' := [(2, ((76 : Nat) : Int)), (0, (((sm f i : Nat) : Int) + 0)), (0, (i : Int))]) lk_107_34 rfl rfl ?_
          refine g_iinc (ls' := [(2, ((76 : Nat) : Int)), (0, (((sm f i : Nat) : Int) + 0)), (0, ((i : Int) + 1))]) lk_107_35 rfl rfl rfl ?_
          refine g_goto (t := 4) lk_107_38 rfl ?_
          exact go _ (by rw [fi, if_neg (by omega)]; omega)
        · replace h2 : ¬ (¬ (x : Int) = 0) := h2
          refine g_iconst lk_107_28 ?_
          refine g_goto (t := 33) lk_107_29 rfl ?_
          refine g_iadd lk_107_33 ?_
          refine g_istore_n (ls' := [(2, ((76 : Nat) : Int)), (0, (((sm f i : Nat) : Int) + 1)), (0, (i : Int))]) lk_107_34 rfl rfl ?_
          refine g_iinc (ls' := [(2, ((76 : Nat) : Int)), (0, (((sm f i : Nat) : Int) + 1)), (0, ((i : Int) + 1))]) lk_107_35 rfl rfl rfl ?_
          refine g_goto (t := 4) lk_107_38 rfl ?_
          exact go _ (by rw [fi, if_pos (by omega)]; omega)
  show Wp d 107 0 [(2, ((76 : Nat) : Int)), (9, 0), (9, 0)] [] M mc ms Q
  refine g_iconst lk_107_0 ?_
  refine g_istore_n (ls' := [(2, ((76 : Nat) : Int)), (0, 0), (9, 0)]) lk_107_1 rfl rfl ?_
  refine g_iconst lk_107_2 ?_
  refine g_istore_n (ls' := [(2, ((76 : Nat) : Int)), (0, 0), (0, 0)]) lk_107_3 rfl rfl ?_
  exact loop l 0 (by omega)
theorem c_Told_idleCount2 {d mc ms : Nat} {M : pm_M} (lay : Lay M) {T : Tab} (hT : TabOK T) {L : List Nd} {p dp : Nat → Nat} (hX : TdAt M 76 T L p dp) :
    pm_E (d + 1) 108 [(2, ((76 : Nat) : Int))] M mc ms (fun ρ M' => ρ = some (0, (tId T L p : Int)) ∧ M' = M) := by
  obtain ⟨Q, hQ⟩ : ∃ Q : pm_Q, Q = (fun ρ M' => ρ = some (0, (tId T L p : Int)) ∧ M' = M) := ⟨_, rfl⟩
  rw [← hQ]
  have iu := fun k hk => c_Told_isIdle2 (d := d) (mc := 0) (ms := 0) lay hT hX (k := k) hk
  obtain ⟨⟨hD, hp, hx⟩, hct, hL, hC⟩ := hX
  have l31 := hD.2.1
  obtain ⟨f, hf⟩ : ∃ f : Nat → Nat, f = fun k => if idl (CM T L p k) then 1 else 0 := ⟨_, rfl⟩
  obtain ⟨l, hl⟩ : ∃ l, l = L.length := ⟨_, rfl⟩
  rw [← hl] at hct l31
  have loop : ∀ (n i : Nat), i + n = l → Wp (d + 1) 108 4 [(2, ((76 : Nat) : Int)), (0, ((sm f i : Nat) : Int)), (0, (i : Int))] [] M mc ms Q := by
    intro n
    induction n with
    | zero =>
      intro i hi
      have e : i = l := by omega
      subst e
      refine g_iload_n lk_108_4 rfl ?_
      refine g_aload_n lk_108_5 rfl ?_
      refine g_getfield lk_108_6 rfl (lay.on (by decide) rfl) (v := ((77 : Nat) : Int)) (lay.rf rfl) ?_
      refine m_getfield (u := []) (M := M) lk_108_9 rfl (lay.on (by decide) rfl) (v := (i : Int)) hct ?_
      refine g_icmp (t := 37) lk_108_12 rfl (by first | (unfold pm_inI; omega) | exact pm_and_in _ _ | exact pm_shr_in _ _ | exact pm_or_in _ _ | exact pm_xor_in _ _ | exact pm_shl_in _ _ | exact pm_cmp_in _ _ | exact pm_b8_in _ | (unfold pm_inI; split <;> omega)) (by first | (unfold pm_inI; omega) | exact pm_and_in _ _ | exact pm_shr_in _ _ | exact pm_or_in _ _ | exact pm_xor_in _ _ | exact pm_shl_in _ _ | exact pm_cmp_in _ _ | exact pm_b8_in _ | (unfold pm_inI; split <;> omega)) (fun h1 => ?_) (fun h1 => ?_)
      · replace h1 : (i : Int) ≤ (i : Int) := h1
        refine g_iload_n lk_108_37 rfl ?_
        refine g_ireturn lk_108_38 (fun h => absurd h (by decide)) ?_
        rw [hQ]
        exact ⟨by unfold tId; rw [← hl, hf], rfl⟩
      · replace h1 : ¬ ((i : Int) ≤ (i : Int)) := h1
        omega
    | succ n ih =>
      intro i hi
      have hk : i < L.length := by omega
      have u := iu i hk
      have fi : f i = if idl (CM T L p i) then 1 else 0 := by rw [hf]
      have go : ∀ z : Int, z = ((sm f i + f i : Nat) : Int) → Wp (d + 1) 108 4 [(2, ((76 : Nat) : Int)), (0, z), (0, (i : Int) + 1)] [] M mc ms Q := fun z hz => by
        rw [hz]; exact ih (i + 1) (by omega)
      by_cases q : idl (CM T L p i)
      · rw [if_pos q] at u fi
        refine g_iload_n lk_108_4 rfl ?_
        refine g_aload_n lk_108_5 rfl ?_
        refine g_getfield lk_108_6 rfl (lay.on (by decide) rfl) (v := ((77 : Nat) : Int)) (lay.rf rfl) ?_
        refine m_getfield (u := []) (M := M) lk_108_9 rfl (lay.on (by decide) rfl) (v := (l : Int)) hct ?_
        refine g_icmp (t := 37) lk_108_12 rfl (by first | (unfold pm_inI; omega) | exact pm_and_in _ _ | exact pm_shr_in _ _ | exact pm_or_in _ _ | exact pm_xor_in _ _ | exact pm_shl_in _ _ | exact pm_cmp_in _ _ | exact pm_b8_in _ | (unfold pm_inI; split <;> omega)) (by first | (unfold pm_inI; omega) | exact pm_and_in _ _ | exact pm_shr_in _ _ | exact pm_or_in _ _ | exact pm_xor_in _ _ | exact pm_shl_in _ _ | exact pm_cmp_in _ _ | exact pm_b8_in _ | (unfold pm_inI; split <;> omega)) (fun h1 => ?_) (fun h1 => ?_)
        · replace h1 : (l : Int) ≤ (i : Int) := h1
          omega
        · replace h1 : ¬ ((l : Int) ≤ (i : Int)) := h1
          refine g_iload_n lk_108_15 rfl ?_
          refine g_aload_n lk_108_16 rfl ?_
          refine g_iload_n lk_108_17 rfl ?_
          refine g_virtual (p := 76) (Qc := _) lk_108_18 rfl (Nat.le_of_ble_eq_true rfl) rfl rfl (lay.on (by decide) rfl) (Nat.le_of_ble_eq_true rfl) (Nat.le_of_ble_eq_true rfl) (Nat.zero_le _) (Nat.zero_le _) (u) ?_
          rintro _ N2 ⟨rfl, hN2⟩
          rw [hN2]
          show Wp _ 108 21 [(2, ((76 : Nat) : Int)), (0, ((sm f i : Nat) : Int)), (0, (i : Int))] [(0, 1), (0, ((sm f i : Nat) : Int))] M _ _ _
          refine g_if (t := 28) lk_108_21 rfl (by first | (unfold pm_inI; omega) | exact pm_and_in _ _ | exact pm_shr_in _ _ | exact pm_or_in _ _ | exact pm_xor_in _ _ | exact pm_shl_in _ _ | exact pm_cmp_in _ _ | exact pm_b8_in _ | (unfold pm_inI; split <;> omega)) (fun h => absurd h (show ¬ ((1 : Int) = (0 : Int)) by omega)) (fun _ => ?_)
          refine g_iconst lk_108_24 ?_
          refine g_goto (t := 29) lk_108_25 rfl ?_
          refine g_iadd lk_108_29 ?_
          refine g_istore_n (ls' := [(2, ((76 : Nat) : Int)), (0, (((sm f i : Nat) : Int) + 1)), (0, (i : Int))]) lk_108_30 rfl rfl ?_
          refine g_iinc (ls' := [(2, ((76 : Nat) : Int)), (0, (((sm f i : Nat) : Int) + 1)), (0, ((i : Int) + 1))]) lk_108_31 rfl rfl rfl ?_
          refine g_goto (t := 4) lk_108_34 rfl ?_
          exact go _ (by rw [fi]; omega)
      · rw [if_neg q] at u fi
        refine g_iload_n lk_108_4 rfl ?_
        refine g_aload_n lk_108_5 rfl ?_
        refine g_getfield lk_108_6 rfl (lay.on (by decide) rfl) (v := ((77 : Nat) : Int)) (lay.rf rfl) ?_
        refine m_getfield (u := []) (M := M) lk_108_9 rfl (lay.on (by decide) rfl) (v := (l : Int)) hct ?_
        refine g_icmp (t := 37) lk_108_12 rfl (by first | (unfold pm_inI; omega) | exact pm_and_in _ _ | exact pm_shr_in _ _ | exact pm_or_in _ _ | exact pm_xor_in _ _ | exact pm_shl_in _ _ | exact pm_cmp_in _ _ | exact pm_b8_in _ | (unfold pm_inI; split <;> omega)) (by first | (unfold pm_inI; omega) | exact pm_and_in _ _ | exact pm_shr_in _ _ | exact pm_or_in _ _ | exact pm_xor_in _ _ | exact pm_shl_in _ _ | exact pm_cmp_in _ _ | exact pm_b8_in _ | (unfold pm_inI; split <;> omega)) (fun h1 => ?_) (fun h1 => ?_)
        · replace h1 : (l : Int) ≤ (i : Int) := h1
          omega
        · replace h1 : ¬ ((l : Int) ≤ (i : Int)) := h1
          refine g_iload_n lk_108_15 rfl ?_
          refine g_aload_n lk_108_16 rfl ?_
          refine g_iload_n lk_108_17 rfl ?_
          refine g_virtual (p := 76) (Qc := _) lk_108_18 rfl (Nat.le_of_ble_eq_true rfl) rfl rfl (lay.on (by decide) rfl) (Nat.le_of_ble_eq_true rfl) (Nat.le_of_ble_eq_true rfl) (Nat.zero_le _) (Nat.zero_le _) (u) ?_
          rintro _ N2 ⟨rfl, hN2⟩
          rw [hN2]
          show Wp _ 108 21 [(2, ((76 : Nat) : Int)), (0, ((sm f i : Nat) : Int)), (0, (i : Int))] [(0, 0), (0, ((sm f i : Nat) : Int))] M _ _ _
          refine g_if (t := 28) lk_108_21 rfl (by first | (unfold pm_inI; omega) | exact pm_and_in _ _ | exact pm_shr_in _ _ | exact pm_or_in _ _ | exact pm_xor_in _ _ | exact pm_shl_in _ _ | exact pm_cmp_in _ _ | exact pm_b8_in _ | (unfold pm_inI; split <;> omega)) (fun _ => ?_) (fun h => absurd (show (0 : Int) = (0 : Int) by omega) h)
          refine g_iconst lk_108_28 ?_
          refine g_iadd lk_108_29 ?_
          refine g_istore_n (ls' := [(2, ((76 : Nat) : Int)), (0, (((sm f i : Nat) : Int) + 0)), (0, (i : Int))]) lk_108_30 rfl rfl ?_
          refine g_iinc (ls' := [(2, ((76 : Nat) : Int)), (0, (((sm f i : Nat) : Int) + 0)), (0, ((i : Int) + 1))]) lk_108_31 rfl rfl rfl ?_
          refine g_goto (t := 4) lk_108_34 rfl ?_
          exact go _ (by rw [fi]; omega)
  show Wp (d + 1) 108 0 [(2, ((76 : Nat) : Int)), (9, 0), (9, 0)] [] M mc ms Q
  refine g_iconst lk_108_0 ?_
  refine g_istore_n (ls' := [(2, ((76 : Nat) : Int)), (0, 0), (9, 0)]) lk_108_1 rfl rfl ?_
  refine g_iconst lk_108_2 ?_
  refine g_istore_n (ls' := [(2, ((76 : Nat) : Int)), (0, 0), (0, 0)]) lk_108_3 rfl rfl ?_
  exact loop l 0 (by omega)
theorem c_Told_worstCost2 {d mc ms : Nat} {M : pm_M} (lay : Lay M) {T : Tab} (hT : TabOK T) {L : List Nd} {p dp : Nat → Nat} (hX : TdAt M 76 T L p dp) :
    pm_E (d + 2) 109 [(2, ((76 : Nat) : Int))] M mc ms (fun ρ M' => ρ = some (0, (x2 T (fun r c => wc T L r c 9 0) : Int)) ∧ M' = M) := by
  obtain ⟨Q, hQ⟩ : ∃ Q : pm_Q, Q = (fun ρ M' => ρ = some (0, (x2 T (fun r c => wc T L r c 9 0) : Int)) ∧ M' = M) := ⟨_, rfl⟩
  rw [← hQ]
  have iu := fun k hk => c_Told_isUsedLeaf2 (d := d) (mc := 0) (ms := 0) lay hT hX (k := k) hk
  obtain ⟨⟨hD, hp, hx⟩, hct, hL, hC⟩ := hX
  have l31 := hD.2.1
  have fin := x2_leaf hT hD hp (fun k => (CM T L p k).2.2.2.1) (fun r c => wc T L r c 9 0) (fun r c hr hc => (leaf_at hT hD hp hr hc).2.2.2.2.1)
  obtain ⟨f, hf⟩ : ∃ f : Nat → Nat, f = fun k => if (ndA L k).1 = 0 ∧ ¬ idl (CM T L p k) then (CM T L p k).2.2.2.1 else 0 := ⟨_, rfl⟩
  have fin2 : xm f L.length = x2 T (fun r c => wc T L r c 9 0) := by rw [hf]; exact fin
  obtain ⟨l, hl⟩ : ∃ l, l = L.length := ⟨_, rfl⟩
  rw [← hl] at hct l31 fin2
  have fb : ∀ i, i < l → f i ≤ 81 := fun i hi => by
    obtain ⟨_, _, _, b4, _, _⟩ := CM_bd hT hD hp _ _ (Nat.lt_succ_self _) (show i < L.length by omega)
    have := (hx i (by omega)).1
    rw [hf]
    show (if (ndA L i).1 = 0 ∧ ¬ idl (CM T L p i) then (CM T L p i).2.2.2.1 else 0) ≤ 81
    split <;> omega
  have loop : ∀ (n i : Nat), i + n = l → Wp (d + 2) 109 4 [(2, ((76 : Nat) : Int)), (0, ((xm f i : Nat) : Int)), (0, (i : Int))] [] M mc ms Q := by
    intro n
    induction n with
    | zero =>
      intro i hi
      have e : i = l := by omega
      subst e
      refine g_iload_n lk_109_4 rfl ?_
      refine g_aload_n lk_109_5 rfl ?_
      refine g_getfield lk_109_6 rfl (lay.on (by decide) rfl) (v := ((77 : Nat) : Int)) (lay.rf rfl) ?_
      refine m_getfield (u := []) (M := M) lk_109_9 rfl (lay.on (by decide) rfl) (v := (i : Int)) hct ?_
      refine g_icmp (t := 44) lk_109_12 rfl (by first | (unfold pm_inI; omega) | exact pm_and_in _ _ | exact pm_shr_in _ _ | exact pm_or_in _ _ | exact pm_xor_in _ _ | exact pm_shl_in _ _ | exact pm_cmp_in _ _ | exact pm_b8_in _ | (unfold pm_inI; split <;> omega)) (by first | (unfold pm_inI; omega) | exact pm_and_in _ _ | exact pm_shr_in _ _ | exact pm_or_in _ _ | exact pm_xor_in _ _ | exact pm_shl_in _ _ | exact pm_cmp_in _ _ | exact pm_b8_in _ | (unfold pm_inI; split <;> omega)) (fun h1 => ?_) (fun h1 => ?_)
      · replace h1 : (i : Int) ≤ (i : Int) := h1
        refine g_iload_n lk_109_44 rfl ?_
        refine g_ireturn lk_109_45 (fun h => absurd h (by decide)) ?_
        rw [hQ]
        exact ⟨by rw [fin2], rfl⟩
      · replace h1 : ¬ ((i : Int) ≤ (i : Int)) := h1
        omega
    | succ n ih =>
      intro i hi
      have hk : i < L.length := by omega
      have u := iu i hk
      have rd := (hC i hk).2.2.2.1
      have fi : f i = if (ndA L i).1 = 0 ∧ ¬ idl (CM T L p i) then (CM T L p i).2.2.2.1 else 0 := by rw [hf]
      have f8 := fb i (by omega)
      have x8 : xm f i ≤ 81 := xm_le (fun j hj => fb j (by omega))
      obtain ⟨a, ha⟩ : ∃ a, a = xm f i := ⟨_, rfl⟩
      have go : ∀ z : Int, z = ((max a (f i) : Nat) : Int) → Wp (d + 2) 109 4 [(2, ((76 : Nat) : Int)), (0, z), (0, (i : Int) + 1)] [] M mc ms Q := fun z hz => by
        rw [hz, ha]; exact ih (i + 1) (by omega)
      rw [← ha] at x8 ⊢
      obtain ⟨s, hs⟩ : ∃ s, s = (CM T L p i).2.2.2.1 := ⟨_, rfl⟩
      rw [← hs] at rd fi
      by_cases q : (ndA L i).1 = 0 ∧ ¬ idl (CM T L p i)
      · rw [if_pos q] at u fi
        rw [fi] at f8
        refine g_iload_n lk_109_4 rfl ?_
        refine g_aload_n lk_109_5 rfl ?_
        refine g_getfield lk_109_6 rfl (lay.on (by decide) rfl) (v := ((77 : Nat) : Int)) (lay.rf rfl) ?_
        refine m_getfield (u := []) (M := M) lk_109_9 rfl (lay.on (by decide) rfl) (v := (l : Int)) hct ?_
        refine g_icmp (t := 44) lk_109_12 rfl (by first | (unfold pm_inI; omega) | exact pm_and_in _ _ | exact pm_shr_in _ _ | exact pm_or_in _ _ | exact pm_xor_in _ _ | exact pm_shl_in _ _ | exact pm_cmp_in _ _ | exact pm_b8_in _ | (unfold pm_inI; split <;> omega)) (by first | (unfold pm_inI; omega) | exact pm_and_in _ _ | exact pm_shr_in _ _ | exact pm_or_in _ _ | exact pm_xor_in _ _ | exact pm_shl_in _ _ | exact pm_cmp_in _ _ | exact pm_b8_in _ | (unfold pm_inI; split <;> omega)) (fun h1 => ?_) (fun h1 => ?_)
        · replace h1 : (l : Int) ≤ (i : Int) := h1
          omega
        · replace h1 : ¬ ((l : Int) ≤ (i : Int)) := h1
          refine g_aload_n lk_109_15 rfl ?_
          refine g_iload_n lk_109_16 rfl ?_
          refine g_virtual (p := 76) (Qc := _) lk_109_17 rfl (Nat.le_of_ble_eq_true rfl) rfl rfl (lay.on (by decide) rfl) (Nat.le_of_ble_eq_true rfl) (Nat.le_of_ble_eq_true rfl) (Nat.zero_le _) (Nat.zero_le _) (u) ?_
          rintro _ N2 ⟨rfl, hN2⟩
          rw [hN2]
          show Wp _ 109 20 [(2, ((76 : Nat) : Int)), (0, (a : Int)), (0, (i : Int))] [(0, 1)] M _ _ _
          refine g_if (t := 36) lk_109_20 rfl (by first | (unfold pm_inI; omega) | exact pm_and_in _ _ | exact pm_shr_in _ _ | exact pm_or_in _ _ | exact pm_xor_in _ _ | exact pm_shl_in _ _ | exact pm_cmp_in _ _ | exact pm_b8_in _ | (unfold pm_inI; split <;> omega)) (fun h => absurd h (show ¬ ((1 : Int) = (0 : Int)) by omega)) (fun _ => ?_)
          refine g_iload_n lk_109_23 rfl ?_
          refine g_aload_n lk_109_24 rfl ?_
          refine g_getfield lk_109_25 rfl (lay.on (by decide) rfl) (v := ((84 : Nat) : Int)) (lay.rf rfl) ?_
          refine g_iload_n lk_109_28 rfl ?_
          refine m_iaload (u := []) (M := M) lk_109_29 (lay.ay (by decide) rfl) (by omega) (j := i) (by omega) (v := (s : Int)) rd ?_
          refine g_mmax lk_109_30 (by first | (unfold pm_inI; omega) | exact pm_and_in _ _ | exact pm_shr_in _ _ | exact pm_or_in _ _ | exact pm_xor_in _ _ | exact pm_shl_in _ _ | exact pm_cmp_in _ _ | exact pm_b8_in _ | (unfold pm_inI; split <;> omega)) (by first | (unfold pm_inI; omega) | exact pm_and_in _ _ | exact pm_shr_in _ _ | exact pm_or_in _ _ | exact pm_xor_in _ _ | exact pm_shl_in _ _ | exact pm_cmp_in _ _ | exact pm_b8_in _ | (unfold pm_inI; split <;> omega)) (Nat.le_of_ble_eq_true rfl) ?_
          refine g_goto (t := 37) lk_109_33 rfl ?_
          refine g_istore_n (ls' := [(2, ((76 : Nat) : Int)), (0, (max (a : Int) (s : Int))), (0, (i : Int))]) lk_109_37 rfl rfl ?_
          refine g_iinc (ls' := [(2, ((76 : Nat) : Int)), (0, (max (a : Int) (s : Int))), (0, ((i : Int) + 1))]) lk_109_38 rfl rfl rfl ?_
          refine g_goto (t := 4) lk_109_41 rfl ?_
          exact go _ (by rw [fi]; omega)
      · rw [if_neg q] at u fi
        refine g_iload_n lk_109_4 rfl ?_
        refine g_aload_n lk_109_5 rfl ?_
        refine g_getfield lk_109_6 rfl (lay.on (by decide) rfl) (v := ((77 : Nat) : Int)) (lay.rf rfl) ?_
        refine m_getfield (u := []) (M := M) lk_109_9 rfl (lay.on (by decide) rfl) (v := (l : Int)) hct ?_
        refine g_icmp (t := 44) lk_109_12 rfl (by first | (unfold pm_inI; omega) | exact pm_and_in _ _ | exact pm_shr_in _ _ | exact pm_or_in _ _ | exact pm_xor_in _ _ | exact pm_shl_in _ _ | exact pm_cmp_in _ _ | exact pm_b8_in _ | (unfold pm_inI; split <;> omega)) (by first | (unfold pm_inI; omega) | exact pm_and_in _ _ | exact pm_shr_in _ _ | exact pm_or_in _ _ | exact pm_xor_in _ _ | exact pm_shl_in _ _ | exact pm_cmp_in _ _ | exact pm_b8_in _ | (unfold pm_inI; split <;> omega)) (fun h1 => ?_) (fun h1 => ?_)
        · replace h1 : (l : Int) ≤ (i : Int) := h1
          omega
        · replace h1 : ¬ ((l : Int) ≤ (i : Int)) := h1
          refine g_aload_n lk_109_15 rfl ?_
          refine g_iload_n lk_109_16 rfl ?_
          refine g_virtual (p := 76) (Qc := _) lk_109_17 rfl (Nat.le_of_ble_eq_true rfl) rfl rfl (lay.on (by decide) rfl) (Nat.le_of_ble_eq_true rfl) (Nat.le_of_ble_eq_true rfl) (Nat.zero_le _) (Nat.zero_le _) (u) ?_
          rintro _ N2 ⟨rfl, hN2⟩
          rw [hN2]
          show Wp _ 109 20 [(2, ((76 : Nat) : Int)), (0, (a : Int)), (0, (i : Int))] [(0, 0)] M _ _ _
          refine g_if (t := 36) lk_109_20 rfl (by first | (unfold pm_inI; omega) | exact pm_and_in _ _ | exact pm_shr_in _ _ | exact pm_or_in _ _ | exact pm_xor_in _ _ | exact pm_shl_in _ _ | exact pm_cmp_in _ _ | exact pm_b8_in _ | (unfold pm_inI; split <;> omega)) (fun _ => ?_) (fun h => absurd (show (0 : Int) = (0 : Int) by omega) h)
          refine g_iload_n lk_109_36 rfl ?_
          refine g_istore_n (ls' := [(2, ((76 : Nat) : Int)), (0, (a : Int)), (0, (i : Int))]) lk_109_37 rfl rfl ?_
          refine g_iinc (ls' := [(2, ((76 : Nat) : Int)), (0, (a : Int)), (0, ((i : Int) + 1))]) lk_109_38 rfl rfl rfl ?_
          refine g_goto (t := 4) lk_109_41 rfl ?_
          exact go _ (by rw [fi]; omega)
  show Wp (d + 2) 109 0 [(2, ((76 : Nat) : Int)), (9, 0), (9, 0)] [] M mc ms Q
  refine g_iconst lk_109_0 ?_
  refine g_istore_n (ls' := [(2, ((76 : Nat) : Int)), (0, 0), (9, 0)]) lk_109_1 rfl rfl ?_
  refine g_iconst lk_109_2 ?_
  refine g_istore_n (ls' := [(2, ((76 : Nat) : Int)), (0, 0), (0, 0)]) lk_109_3 rfl rfl ?_
  exact loop l 0 (by omega)
theorem c_Told_mostTurns2 {d mc ms : Nat} {M : pm_M} (lay : Lay M) {T : Tab} (hT : TabOK T) {L : List Nd} {p dp : Nat → Nat} (hX : TdAt M 76 T L p dp) :
    pm_E (d + 2) 110 [(2, ((76 : Nat) : Int))] M mc ms (fun ρ M' => ρ = some (0, (x2 T (fun r c => wt L r c 9 0 0) : Int)) ∧ M' = M) := by
  obtain ⟨Q, hQ⟩ : ∃ Q : pm_Q, Q = (fun ρ M' => ρ = some (0, (x2 T (fun r c => wt L r c 9 0 0) : Int)) ∧ M' = M) := ⟨_, rfl⟩
  rw [← hQ]
  have iu := fun k hk => c_Told_isUsedLeaf2 (d := d) (mc := 0) (ms := 0) lay hT hX (k := k) hk
  obtain ⟨⟨hD, hp, hx⟩, hct, hL, hC⟩ := hX
  have l31 := hD.2.1
  have fin := x2_leaf hT hD hp (fun k => (CM T L p k).2.2.2.2.1) (fun r c => wt L r c 9 0 0) (fun r c hr hc => (leaf_at hT hD hp hr hc).2.2.2.2.2.1)
  obtain ⟨f, hf⟩ : ∃ f : Nat → Nat, f = fun k => if (ndA L k).1 = 0 ∧ ¬ idl (CM T L p k) then (CM T L p k).2.2.2.2.1 else 0 := ⟨_, rfl⟩
  have fin2 : xm f L.length = x2 T (fun r c => wt L r c 9 0 0) := by rw [hf]; exact fin
  obtain ⟨l, hl⟩ : ∃ l, l = L.length := ⟨_, rfl⟩
  rw [← hl] at hct l31 fin2
  have fb : ∀ i, i < l → f i ≤ 81 := fun i hi => by
    obtain ⟨_, _, _, _, b5, _⟩ := CM_bd hT hD hp _ _ (Nat.lt_succ_self _) (show i < L.length by omega)
    have := (hx i (by omega)).1
    rw [hf]
    show (if (ndA L i).1 = 0 ∧ ¬ idl (CM T L p i) then (CM T L p i).2.2.2.2.1 else 0) ≤ 81
    split <;> omega
  have loop : ∀ (n i : Nat), i + n = l → Wp (d + 2) 110 4 [(2, ((76 : Nat) : Int)), (0, ((xm f i : Nat) : Int)), (0, (i : Int))] [] M mc ms Q := by
    intro n
    induction n with
    | zero =>
      intro i hi
      have e : i = l := by omega
      subst e
      refine g_iload_n lk_110_4 rfl ?_
      refine g_aload_n lk_110_5 rfl ?_
      refine g_getfield lk_110_6 rfl (lay.on (by decide) rfl) (v := ((77 : Nat) : Int)) (lay.rf rfl) ?_
      refine m_getfield (u := []) (M := M) lk_110_9 rfl (lay.on (by decide) rfl) (v := (i : Int)) hct ?_
      refine g_icmp (t := 44) lk_110_12 rfl (by first | (unfold pm_inI; omega) | exact pm_and_in _ _ | exact pm_shr_in _ _ | exact pm_or_in _ _ | exact pm_xor_in _ _ | exact pm_shl_in _ _ | exact pm_cmp_in _ _ | exact pm_b8_in _ | (unfold pm_inI; split <;> omega)) (by first | (unfold pm_inI; omega) | exact pm_and_in _ _ | exact pm_shr_in _ _ | exact pm_or_in _ _ | exact pm_xor_in _ _ | exact pm_shl_in _ _ | exact pm_cmp_in _ _ | exact pm_b8_in _ | (unfold pm_inI; split <;> omega)) (fun h1 => ?_) (fun h1 => ?_)
      · replace h1 : (i : Int) ≤ (i : Int) := h1
        refine g_iload_n lk_110_44 rfl ?_
        refine g_ireturn lk_110_45 (fun h => absurd h (by decide)) ?_
        rw [hQ]
        exact ⟨by rw [fin2], rfl⟩
      · replace h1 : ¬ ((i : Int) ≤ (i : Int)) := h1
        omega
    | succ n ih =>
      intro i hi
      have hk : i < L.length := by omega
      have u := iu i hk
      have rd := (hC i hk).2.2.2.2.1
      have fi : f i = if (ndA L i).1 = 0 ∧ ¬ idl (CM T L p i) then (CM T L p i).2.2.2.2.1 else 0 := by rw [hf]
      have f8 := fb i (by omega)
      have x8 : xm f i ≤ 81 := xm_le (fun j hj => fb j (by omega))
      obtain ⟨a, ha⟩ : ∃ a, a = xm f i := ⟨_, rfl⟩
      have go : ∀ z : Int, z = ((max a (f i) : Nat) : Int) → Wp (d + 2) 110 4 [(2, ((76 : Nat) : Int)), (0, z), (0, (i : Int) + 1)] [] M mc ms Q := fun z hz => by
        rw [hz, ha]; exact ih (i + 1) (by omega)
      rw [← ha] at x8 ⊢
      obtain ⟨s, hs⟩ : ∃ s, s = (CM T L p i).2.2.2.2.1 := ⟨_, rfl⟩
      rw [← hs] at rd fi
      by_cases q : (ndA L i).1 = 0 ∧ ¬ idl (CM T L p i)
      · rw [if_pos q] at u fi
        rw [fi] at f8
        refine g_iload_n lk_110_4 rfl ?_
        refine g_aload_n lk_110_5 rfl ?_
        refine g_getfield lk_110_6 rfl (lay.on (by decide) rfl) (v := ((77 : Nat) : Int)) (lay.rf rfl) ?_
        refine m_getfield (u := []) (M := M) lk_110_9 rfl (lay.on (by decide) rfl) (v := (l : Int)) hct ?_
        refine g_icmp (t := 44) lk_110_12 rfl (by first | (unfold pm_inI; omega) | exact pm_and_in _ _ | exact pm_shr_in _ _ | exact pm_or_in _ _ | exact pm_xor_in _ _ | exact pm_shl_in _ _ | exact pm_cmp_in _ _ | exact pm_b8_in _ | (unfold pm_inI; split <;> omega)) (by first | (unfold pm_inI; omega) | exact pm_and_in _ _ | exact pm_shr_in _ _ | exact pm_or_in _ _ | exact pm_xor_in _ _ | exact pm_shl_in _ _ | exact pm_cmp_in _ _ | exact pm_b8_in _ | (unfold pm_inI; split <;> omega)) (fun h1 => ?_) (fun h1 => ?_)
        · replace h1 : (l : Int) ≤ (i : Int) := h1
          omega
        · replace h1 : ¬ ((l : Int) ≤ (i : Int)) := h1
          refine g_aload_n lk_110_15 rfl ?_
          refine g_iload_n lk_110_16 rfl ?_
          refine g_virtual (p := 76) (Qc := _) lk_110_17 rfl (Nat.le_of_ble_eq_true rfl) rfl rfl (lay.on (by decide) rfl) (Nat.le_of_ble_eq_true rfl) (Nat.le_of_ble_eq_true rfl) (Nat.zero_le _) (Nat.zero_le _) (u) ?_
          rintro _ N2 ⟨rfl, hN2⟩
          rw [hN2]
          show Wp _ 110 20 [(2, ((76 : Nat) : Int)), (0, (a : Int)), (0, (i : Int))] [(0, 1)] M _ _ _
          refine g_if (t := 36) lk_110_20 rfl (by first | (unfold pm_inI; omega) | exact pm_and_in _ _ | exact pm_shr_in _ _ | exact pm_or_in _ _ | exact pm_xor_in _ _ | exact pm_shl_in _ _ | exact pm_cmp_in _ _ | exact pm_b8_in _ | (unfold pm_inI; split <;> omega)) (fun h => absurd h (show ¬ ((1 : Int) = (0 : Int)) by omega)) (fun _ => ?_)
          refine g_iload_n lk_110_23 rfl ?_
          refine g_aload_n lk_110_24 rfl ?_
          refine g_getfield lk_110_25 rfl (lay.on (by decide) rfl) (v := ((85 : Nat) : Int)) (lay.rf rfl) ?_
          refine g_iload_n lk_110_28 rfl ?_
          refine m_iaload (u := []) (M := M) lk_110_29 (lay.ay (by decide) rfl) (by omega) (j := i) (by omega) (v := (s : Int)) rd ?_
          refine g_mmax lk_110_30 (by first | (unfold pm_inI; omega) | exact pm_and_in _ _ | exact pm_shr_in _ _ | exact pm_or_in _ _ | exact pm_xor_in _ _ | exact pm_shl_in _ _ | exact pm_cmp_in _ _ | exact pm_b8_in _ | (unfold pm_inI; split <;> omega)) (by first | (unfold pm_inI; omega) | exact pm_and_in _ _ | exact pm_shr_in _ _ | exact pm_or_in _ _ | exact pm_xor_in _ _ | exact pm_shl_in _ _ | exact pm_cmp_in _ _ | exact pm_b8_in _ | (unfold pm_inI; split <;> omega)) (Nat.le_of_ble_eq_true rfl) ?_
          refine g_goto (t := 37) lk_110_33 rfl ?_
          refine g_istore_n (ls' := [(2, ((76 : Nat) : Int)), (0, (max (a : Int) (s : Int))), (0, (i : Int))]) lk_110_37 rfl rfl ?_
          refine g_iinc (ls' := [(2, ((76 : Nat) : Int)), (0, (max (a : Int) (s : Int))), (0, ((i : Int) + 1))]) lk_110_38 rfl rfl rfl ?_
          refine g_goto (t := 4) lk_110_41 rfl ?_
          exact go _ (by rw [fi]; omega)
      · rw [if_neg q] at u fi
        refine g_iload_n lk_110_4 rfl ?_
        refine g_aload_n lk_110_5 rfl ?_
        refine g_getfield lk_110_6 rfl (lay.on (by decide) rfl) (v := ((77 : Nat) : Int)) (lay.rf rfl) ?_
        refine m_getfield (u := []) (M := M) lk_110_9 rfl (lay.on (by decide) rfl) (v := (l : Int)) hct ?_
        refine g_icmp (t := 44) lk_110_12 rfl (by first | (unfold pm_inI; omega) | exact pm_and_in _ _ | exact pm_shr_in _ _ | exact pm_or_in _ _ | exact pm_xor_in _ _ | exact pm_shl_in _ _ | exact pm_cmp_in _ _ | exact pm_b8_in _ | (unfold pm_inI; split <;> omega)) (by first | (unfold pm_inI; omega) | exact pm_and_in _ _ | exact pm_shr_in _ _ | exact pm_or_in _ _ | exact pm_xor_in _ _ | exact pm_shl_in _ _ | exact pm_cmp_in _ _ | exact pm_b8_in _ | (unfold pm_inI; split <;> omega)) (fun h1 => ?_) (fun h1 => ?_)
        · replace h1 : (l : Int) ≤ (i : Int) := h1
          omega
        · replace h1 : ¬ ((l : Int) ≤ (i : Int)) := h1
          refine g_aload_n lk_110_15 rfl ?_
          refine g_iload_n lk_110_16 rfl ?_
          refine g_virtual (p := 76) (Qc := _) lk_110_17 rfl (Nat.le_of_ble_eq_true rfl) rfl rfl (lay.on (by decide) rfl) (Nat.le_of_ble_eq_true rfl) (Nat.le_of_ble_eq_true rfl) (Nat.zero_le _) (Nat.zero_le _) (u) ?_
          rintro _ N2 ⟨rfl, hN2⟩
          rw [hN2]
          show Wp _ 110 20 [(2, ((76 : Nat) : Int)), (0, (a : Int)), (0, (i : Int))] [(0, 0)] M _ _ _
          refine g_if (t := 36) lk_110_20 rfl (by first | (unfold pm_inI; omega) | exact pm_and_in _ _ | exact pm_shr_in _ _ | exact pm_or_in _ _ | exact pm_xor_in _ _ | exact pm_shl_in _ _ | exact pm_cmp_in _ _ | exact pm_b8_in _ | (unfold pm_inI; split <;> omega)) (fun _ => ?_) (fun h => absurd (show (0 : Int) = (0 : Int) by omega) h)
          refine g_iload_n lk_110_36 rfl ?_
          refine g_istore_n (ls' := [(2, ((76 : Nat) : Int)), (0, (a : Int)), (0, (i : Int))]) lk_110_37 rfl rfl ?_
          refine g_iinc (ls' := [(2, ((76 : Nat) : Int)), (0, (a : Int)), (0, ((i : Int) + 1))]) lk_110_38 rfl rfl rfl ?_
          refine g_goto (t := 4) lk_110_41 rfl ?_
          exact go _ (by rw [fi]; omega)
  show Wp (d + 2) 110 0 [(2, ((76 : Nat) : Int)), (9, 0), (9, 0)] [] M mc ms Q
  refine g_iconst lk_110_0 ?_
  refine g_istore_n (ls' := [(2, ((76 : Nat) : Int)), (0, 0), (9, 0)]) lk_110_1 rfl rfl ?_
  refine g_iconst lk_110_2 ?_
  refine g_istore_n (ls' := [(2, ((76 : Nat) : Int)), (0, 0), (0, 0)]) lk_110_3 rfl rfl ?_
  exact loop l 0 (by omega)
theorem c_Told_sumOfCosts2 {d mc ms : Nat} {M : pm_M} (lay : Lay M) {T : Tab} (hT : TabOK T) (hM : TbAt M 24 T) {L : List Nd} {p dp : Nat → Nat} (hX : TdAt M 76 T L p dp) :
    pm_E (d + 5) 111 [(2, ((76 : Nat) : Int)), (2, ((24 : Nat) : Int))] M mc ms (fun ρ M' => ρ = some (0, (tSum T L : Int)) ∧ M' = M) := by
  obtain ⟨Q, hQ⟩ : ∃ Q : pm_Q, Q = (fun ρ M' => ρ = some (0, (tSum T L : Int)) ∧ M' = M) := ⟨_, rfl⟩
  rw [← hQ]
  have iu := fun k hk => c_Told_isUsedLeaf2 (d := d + 3) (mc := 0) (ms := 0) lay hT hX (k := k) hk
  obtain ⟨⟨hD, hp, hx⟩, hct, hL, hC⟩ := hX
  have l31 := hD.2.1
  have fin := tSum_eq2 hT hD hp
  obtain ⟨f, hf⟩ : ∃ f : Nat → Nat, f = fun k => if (ndA L k).1 = 0 ∧ ¬ idl (CM T L p k) then (CM T L p k).2.2.2.1 * nA T (CM T L p k).1 (CM T L p k).2.1 else 0 := ⟨_, rfl⟩
  rw [← hf] at fin
  obtain ⟨l, hl⟩ : ∃ l, l = L.length := ⟨_, rfl⟩
  rw [← hl] at hct l31 fin
  have loop : ∀ (n i : Nat), i + n = l → Wp (d + 5) 111 4 [(2, ((76 : Nat) : Int)), (2, ((24 : Nat) : Int)), (0, ((sm f i : Nat) : Int)), (0, (i : Int))] [] M mc ms Q := by
    intro n
    induction n with
    | zero =>
      intro i hi
      have e : i = l := by omega
      subst e
      refine g_iload_n lk_111_4 rfl ?_
      refine g_aload_n lk_111_5 rfl ?_
      refine g_getfield lk_111_6 rfl (lay.on (by decide) rfl) (v := ((77 : Nat) : Int)) (lay.rf rfl) ?_
      refine m_getfield (u := []) (M := M) lk_111_9 rfl (lay.on (by decide) rfl) (v := (i : Int)) hct ?_
      refine g_icmp (t := 55) lk_111_12 rfl (by first | (unfold pm_inI; omega) | exact pm_and_in _ _ | exact pm_shr_in _ _ | exact pm_or_in _ _ | exact pm_xor_in _ _ | exact pm_shl_in _ _ | exact pm_cmp_in _ _ | exact pm_b8_in _ | (unfold pm_inI; split <;> omega)) (by first | (unfold pm_inI; omega) | exact pm_and_in _ _ | exact pm_shr_in _ _ | exact pm_or_in _ _ | exact pm_xor_in _ _ | exact pm_shl_in _ _ | exact pm_cmp_in _ _ | exact pm_b8_in _ | (unfold pm_inI; split <;> omega)) (fun h1 => ?_) (fun h1 => ?_)
      · replace h1 : (i : Int) ≤ (i : Int) := h1
        refine g_iload_n lk_111_55 rfl ?_
        refine g_ireturn lk_111_56 (fun h => absurd h (by decide)) ?_
        rw [hQ]
        exact ⟨by rw [fin], rfl⟩
      · replace h1 : ¬ ((i : Int) ≤ (i : Int)) := h1
        omega
    | succ n ih =>
      intro i hi
      have hk : i < L.length := by omega
      have u := iu i hk
      obtain ⟨rd1, rd2, _, rd4, _⟩ := hC i hk
      obtain ⟨b1, b2, _, _, _, _⟩ := CM_bd hT hD hp _ _ (Nat.lt_succ_self _) hk
      have fi : f i = if (ndA L i).1 = 0 ∧ ¬ idl (CM T L p i) then (CM T L p i).2.2.2.1 * nA T (CM T L p i).1 (CM T L p i).2.1 else 0 := by rw [hf]
      have go : ∀ z : Int, z = ((sm f i + f i : Nat) : Int) → Wp (d + 5) 111 4 [(2, ((76 : Nat) : Int)), (2, ((24 : Nat) : Int)), (0, z), (0, (i : Int) + 1)] [] M mc ms Q := fun z hz => by
        rw [hz]; exact ih (i + 1) (by omega)
      obtain ⟨e, he⟩ : ∃ e, e = CM T L p i := ⟨_, rfl⟩
      rw [← he] at rd1 rd2 rd4 fi b1 b2
      have r6 := lt_64_of hT.1.2 b1
      have c6 := lt_64_of hT.2.1.2 b2
      have fl := c_Table_filledIn (d := d) (mc := 0) (ms := 0) lay (Or.inr rfl) hT hM r6 c6
      rw [uIn_nU hT c6, nU_10] at fl
      by_cases q : (ndA L i).1 = 0 ∧ ¬ idl (CM T L p i)
      · rw [if_pos q] at u
        rw [if_pos (by rw [he]; exact q)] at fi
        refine g_iload_n lk_111_4 rfl ?_
        refine g_aload_n lk_111_5 rfl ?_
        refine g_getfield lk_111_6 rfl (lay.on (by decide) rfl) (v := ((77 : Nat) : Int)) (lay.rf rfl) ?_
        refine m_getfield (u := []) (M := M) lk_111_9 rfl (lay.on (by decide) rfl) (v := (l : Int)) hct ?_
        refine g_icmp (t := 55) lk_111_12 rfl (by first | (unfold pm_inI; omega) | exact pm_and_in _ _ | exact pm_shr_in _ _ | exact pm_or_in _ _ | exact pm_xor_in _ _ | exact pm_shl_in _ _ | exact pm_cmp_in _ _ | exact pm_b8_in _ | (unfold pm_inI; split <;> omega)) (by first | (unfold pm_inI; omega) | exact pm_and_in _ _ | exact pm_shr_in _ _ | exact pm_or_in _ _ | exact pm_xor_in _ _ | exact pm_shl_in _ _ | exact pm_cmp_in _ _ | exact pm_b8_in _ | (unfold pm_inI; split <;> omega)) (fun h1 => ?_) (fun h1 => ?_)
        · replace h1 : (l : Int) ≤ (i : Int) := h1
          omega
        · replace h1 : ¬ ((l : Int) ≤ (i : Int)) := h1
          refine g_aload_n lk_111_15 rfl ?_
          refine g_iload_n lk_111_16 rfl ?_
          refine g_virtual (p := 76) (Qc := _) lk_111_17 rfl (Nat.le_of_ble_eq_true rfl) rfl rfl (lay.on (by decide) rfl) (Nat.le_of_ble_eq_true rfl) (Nat.le_of_ble_eq_true rfl) (Nat.zero_le _) (Nat.zero_le _) (u) ?_
          rintro _ N2 ⟨rfl, hN2⟩
          rw [hN2]
          show Wp _ 111 20 [(2, ((76 : Nat) : Int)), (2, ((24 : Nat) : Int)), (0, ((sm f i : Nat) : Int)), (0, (i : Int))] [(0, 1)] M _ _ _
          refine g_if (t := 49) lk_111_20 rfl (by first | (unfold pm_inI; omega) | exact pm_and_in _ _ | exact pm_shr_in _ _ | exact pm_or_in _ _ | exact pm_xor_in _ _ | exact pm_shl_in _ _ | exact pm_cmp_in _ _ | exact pm_b8_in _ | (unfold pm_inI; split <;> omega)) (fun h => absurd h (show ¬ ((1 : Int) = (0 : Int)) by omega)) (fun _ => ?_)
          refine g_iload_n lk_111_23 rfl ?_
          refine g_aload_n lk_111_24 rfl ?_
          refine g_getfield lk_111_25 rfl (lay.on (by decide) rfl) (v := ((84 : Nat) : Int)) (lay.rf rfl) ?_
          refine g_iload_n lk_111_28 rfl ?_
          refine m_iaload (u := []) (M := M) lk_111_29 (lay.ay (by decide) rfl) (by omega) (j := i) (by omega) (v := (e.2.2.2.1 : Int)) rd4 ?_
          refine g_aload_n lk_111_30 rfl ?_
          refine g_aload_n lk_111_31 rfl ?_
          refine g_getfield lk_111_32 rfl (lay.on (by decide) rfl) (v := ((81 : Nat) : Int)) (lay.rf rfl) ?_
          refine g_iload_n lk_111_35 rfl ?_
          refine m_iaload (u := []) (M := M) lk_111_36 (lay.ay (by decide) rfl) (by omega) (j := i) (by omega) (v := (e.1 : Int)) rd1 ?_
          refine g_aload_n lk_111_37 rfl ?_
          refine g_getfield lk_111_38 rfl (lay.on (by decide) rfl) (v := ((82 : Nat) : Int)) (lay.rf rfl) ?_
          refine g_iload_n lk_111_41 rfl ?_
          refine m_iaload (u := []) (M := M) lk_111_42 (lay.ay (by decide) rfl) (by omega) (j := i) (by omega) (v := (e.2.1 : Int)) rd2 ?_
          refine g_virtual (p := 24) (Qc := _) lk_111_43 rfl (Nat.le_of_ble_eq_true rfl) rfl rfl (lay.on (by decide) rfl) (Nat.le_of_ble_eq_true rfl) (Nat.le_of_ble_eq_true rfl) (Nat.zero_le _) (Nat.zero_le _) (fl) ?_
          rintro _ N3 ⟨rfl, hN3⟩
          rw [hN3]
          show Wp _ 111 46 [(2, ((76 : Nat) : Int)), (2, ((24 : Nat) : Int)), (0, ((sm f i : Nat) : Int)), (0, (i : Int))] [(0, (nA T e.1 e.2.1 : Int)), (0, (e.2.2.2.1 : Int)), (0, ((sm f i : Nat) : Int))] M _ _ _
          refine g_imul lk_111_46 ?_
          refine g_iadd lk_111_47 ?_
          refine g_istore_n (ls' := [(2, ((76 : Nat) : Int)), (2, ((24 : Nat) : Int)), (0, (((sm f i : Nat) : Int) + ((e.2.2.2.1 : Int) * (nA T e.1 e.2.1 : Int)))), (0, (i : Int))]) lk_111_48 rfl rfl ?_
          refine g_iinc (ls' := [(2, ((76 : Nat) : Int)), (2, ((24 : Nat) : Int)), (0, (((sm f i : Nat) : Int) + ((e.2.2.2.1 : Int) * (nA T e.1 e.2.1 : Int)))), (0, ((i : Int) + 1))]) lk_111_49 rfl rfl rfl ?_
          refine g_goto (t := 4) lk_111_52 rfl ?_
          exact go _ (by rw [fi, Int.natCast_add, Int.natCast_mul])
      · rw [if_neg q] at u
        rw [if_neg (by rw [he]; exact q)] at fi
        refine g_iload_n lk_111_4 rfl ?_
        refine g_aload_n lk_111_5 rfl ?_
        refine g_getfield lk_111_6 rfl (lay.on (by decide) rfl) (v := ((77 : Nat) : Int)) (lay.rf rfl) ?_
        refine m_getfield (u := []) (M := M) lk_111_9 rfl (lay.on (by decide) rfl) (v := (l : Int)) hct ?_
        refine g_icmp (t := 55) lk_111_12 rfl (by first | (unfold pm_inI; omega) | exact pm_and_in _ _ | exact pm_shr_in _ _ | exact pm_or_in _ _ | exact pm_xor_in _ _ | exact pm_shl_in _ _ | exact pm_cmp_in _ _ | exact pm_b8_in _ | (unfold pm_inI; split <;> omega)) (by first | (unfold pm_inI; omega) | exact pm_and_in _ _ | exact pm_shr_in _ _ | exact pm_or_in _ _ | exact pm_xor_in _ _ | exact pm_shl_in _ _ | exact pm_cmp_in _ _ | exact pm_b8_in _ | (unfold pm_inI; split <;> omega)) (fun h1 => ?_) (fun h1 => ?_)
        · replace h1 : (l : Int) ≤ (i : Int) := h1
          omega
        · replace h1 : ¬ ((l : Int) ≤ (i : Int)) := h1
          refine g_aload_n lk_111_15 rfl ?_
          refine g_iload_n lk_111_16 rfl ?_
          refine g_virtual (p := 76) (Qc := _) lk_111_17 rfl (Nat.le_of_ble_eq_true rfl) rfl rfl (lay.on (by decide) rfl) (Nat.le_of_ble_eq_true rfl) (Nat.le_of_ble_eq_true rfl) (Nat.zero_le _) (Nat.zero_le _) (u) ?_
          rintro _ N2 ⟨rfl, hN2⟩
          rw [hN2]
          show Wp _ 111 20 [(2, ((76 : Nat) : Int)), (2, ((24 : Nat) : Int)), (0, ((sm f i : Nat) : Int)), (0, (i : Int))] [(0, 0)] M _ _ _
          refine g_if (t := 49) lk_111_20 rfl (by first | (unfold pm_inI; omega) | exact pm_and_in _ _ | exact pm_shr_in _ _ | exact pm_or_in _ _ | exact pm_xor_in _ _ | exact pm_shl_in _ _ | exact pm_cmp_in _ _ | exact pm_b8_in _ | (unfold pm_inI; split <;> omega)) (fun _ => ?_) (fun h => absurd (show (0 : Int) = (0 : Int) by omega) h)
          refine g_iinc (ls' := [(2, ((76 : Nat) : Int)), (2, ((24 : Nat) : Int)), (0, ((sm f i : Nat) : Int)), (0, ((i : Int) + 1))]) lk_111_49 rfl rfl rfl ?_
          refine g_goto (t := 4) lk_111_52 rfl ?_
          exact go _ (by rw [fi]; omega)
  show Wp (d + 5) 111 0 [(2, ((76 : Nat) : Int)), (2, ((24 : Nat) : Int)), (9, 0), (9, 0)] [] M mc ms Q
  refine g_iconst lk_111_0 ?_
  refine g_istore_n (ls' := [(2, ((76 : Nat) : Int)), (2, ((24 : Nat) : Int)), (0, 0), (9, 0)]) lk_111_1 rfl rfl ?_
  refine g_iconst lk_111_2 ?_
  refine g_istore_n (ls' := [(2, ((76 : Nat) : Int)), (2, ((24 : Nat) : Int)), (0, 0), (0, 0)]) lk_111_3 rfl rfl ?_
  exact loop l 0 (by omega)
theorem c_Told_wrongAbove2 {d mc ms : Nat} {M : pm_M} (lay : Lay M) {T : Tab} (hT : TabOK T) (hM : TbAt M 24 T) {L : List Nd} {p dp : Nat → Nat} (hX : TdAt M 76 T L p dp) {g : Nat} (hg : g ≤ 9) :
    pm_E (d + 4) 112 [(2, ((76 : Nat) : Int)), (2, ((24 : Nat) : Int)), (0, (g : Int))] M mc ms (fun ρ M' => ρ = some (0, (tWro T L g : Int)) ∧ M' = M) := by
  obtain ⟨Q, hQ⟩ : ∃ Q : pm_Q, Q = (fun ρ M' => ρ = some (0, (tWro T L g : Int)) ∧ M' = M) := ⟨_, rfl⟩
  rw [← hQ]
  have iu := fun k hk => c_Told_isUsedLeaf2 (d := d + 2) (mc := 0) (ms := 0) lay hT hX (k := k) hk
  obtain ⟨⟨hD, hp, hx⟩, hct, hL, hC⟩ := hX
  have l31 := hD.2.1
  have fin := tWro_eq2 hT hD hp g
  obtain ⟨f, hf⟩ : ∃ f : Nat → Nat, f = fun k => if ((ndA L k).1 = 0 ∧ ¬ idl (CM T L p k)) ∧ (CM T L p k).2.2.1 < g then nU T (CM T L p k).1 (CM T L p k).2.1 (ndA L k).2.1 else 0 := ⟨_, rfl⟩
  rw [← hf] at fin
  obtain ⟨l, hl⟩ : ∃ l, l = L.length := ⟨_, rfl⟩
  rw [← hl] at hct l31 fin
  have loop : ∀ (n i : Nat), i + n = l → Wp (d + 4) 112 5 [(2, ((76 : Nat) : Int)), (2, ((24 : Nat) : Int)), (0, (g : Int)), (0, ((sm f i : Nat) : Int)), (0, (i : Int))] [] M mc ms Q := by
    intro n
    induction n with
    | zero =>
      intro i hi
      have e : i = l := by omega
      subst e
      refine g_iload lk_112_5 rfl ?_
      refine g_aload_n lk_112_7 rfl ?_
      refine g_getfield lk_112_8 rfl (lay.on (by decide) rfl) (v := ((77 : Nat) : Int)) (lay.rf rfl) ?_
      refine m_getfield (u := []) (M := M) lk_112_11 rfl (lay.on (by decide) rfl) (v := (i : Int)) hct ?_
      refine g_icmp (t := 74) lk_112_14 rfl (by first | (unfold pm_inI; omega) | exact pm_and_in _ _ | exact pm_shr_in _ _ | exact pm_or_in _ _ | exact pm_xor_in _ _ | exact pm_shl_in _ _ | exact pm_cmp_in _ _ | exact pm_b8_in _ | (unfold pm_inI; split <;> omega)) (by first | (unfold pm_inI; omega) | exact pm_and_in _ _ | exact pm_shr_in _ _ | exact pm_or_in _ _ | exact pm_xor_in _ _ | exact pm_shl_in _ _ | exact pm_cmp_in _ _ | exact pm_b8_in _ | (unfold pm_inI; split <;> omega)) (fun h1 => ?_) (fun h1 => ?_)
      · replace h1 : (i : Int) ≤ (i : Int) := h1
        refine g_iload_n lk_112_74 rfl ?_
        refine g_ireturn lk_112_75 (fun h => absurd h (by decide)) ?_
        rw [hQ]
        exact ⟨by rw [fin], rfl⟩
      · replace h1 : ¬ ((i : Int) ≤ (i : Int)) := h1
        omega
    | succ n ih =>
      intro i hi
      have hk : i < L.length := by omega
      have u := iu i hk
      have xx := (hL i _ (ndA_get hk)).2.1
      obtain ⟨d8, v9⟩ := hx i hk
      obtain ⟨rd1, rd2, rd3, _, _⟩ := hC i hk
      obtain ⟨b1, b2, b3, _, _, _⟩ := CM_bd hT hD hp _ _ (Nat.lt_succ_self _) hk
      have fi : f i = if ((ndA L i).1 = 0 ∧ ¬ idl (CM T L p i)) ∧ (CM T L p i).2.2.1 < g then nU T (CM T L p i).1 (CM T L p i).2.1 (ndA L i).2.1 else 0 := by rw [hf]
      have go : ∀ z : Int, z = ((sm f i + f i : Nat) : Int) → Wp (d + 4) 112 5 [(2, ((76 : Nat) : Int)), (2, ((24 : Nat) : Int)), (0, (g : Int)), (0, z), (0, (i : Int) + 1)] [] M mc ms Q := fun z hz => by
        rw [hz]; exact ih (i + 1) (by omega)
      obtain ⟨e, he⟩ : ∃ e, e = CM T L p i := ⟨_, rfl⟩
      rw [← he] at rd1 rd2 rd3 fi b1 b2 b3
      have r6 := lt_64_of hT.1.2 b1
      have c6 := lt_64_of hT.2.1.2 b2
      obtain ⟨v, hv⟩ : ∃ v, v = (ndA L i).2.1 := ⟨_, rfl⟩
      rw [← hv] at xx fi v9
      by_cases q : (ndA L i).1 = 0 ∧ ¬ idl (CM T L p i)
      · have v99 := v9 q.1
        have fl := c_Table_unlikeIn (d := d) (mc := 0) (ms := 0) lay (Or.inr rfl) hT hM r6 c6 (v := v) (by omega)
        rw [uIn_nU hT c6] at fl
        rw [if_pos q] at u
        clear v9
        refine g_iload lk_112_5 rfl ?_
        refine g_aload_n lk_112_7 rfl ?_
        refine g_getfield lk_112_8 rfl (lay.on (by decide) rfl) (v := ((77 : Nat) : Int)) (lay.rf rfl) ?_
        refine m_getfield (u := []) (M := M) lk_112_11 rfl (lay.on (by decide) rfl) (v := (l : Int)) hct ?_
        refine g_icmp (t := 74) lk_112_14 rfl (by first | (unfold pm_inI; omega) | exact pm_and_in _ _ | exact pm_shr_in _ _ | exact pm_or_in _ _ | exact pm_xor_in _ _ | exact pm_shl_in _ _ | exact pm_cmp_in _ _ | exact pm_b8_in _ | (unfold pm_inI; split <;> omega)) (by first | (unfold pm_inI; omega) | exact pm_and_in _ _ | exact pm_shr_in _ _ | exact pm_or_in _ _ | exact pm_xor_in _ _ | exact pm_shl_in _ _ | exact pm_cmp_in _ _ | exact pm_b8_in _ | (unfold pm_inI; split <;> omega)) (fun h1 => ?_) (fun h1 => ?_)
        · replace h1 : (l : Int) ≤ (i : Int) := h1
          omega
        · replace h1 : ¬ ((l : Int) ≤ (i : Int)) := h1
          refine g_aload_n lk_112_17 rfl ?_
          refine g_iload lk_112_18 rfl ?_
          refine g_virtual (p := 76) (Qc := _) lk_112_20 rfl (Nat.le_of_ble_eq_true rfl) rfl rfl (lay.on (by decide) rfl) (Nat.le_of_ble_eq_true rfl) (Nat.le_of_ble_eq_true rfl) (Nat.zero_le _) (Nat.zero_le _) (u) ?_
          rintro _ N2 ⟨rfl, hN2⟩
          rw [hN2]
          show Wp _ 112 23 [(2, ((76 : Nat) : Int)), (2, ((24 : Nat) : Int)), (0, (g : Int)), (0, ((sm f i : Nat) : Int)), (0, (i : Int))] [(0, 1)] M _ _ _
          refine g_if (t := 68) lk_112_23 rfl (by first | (unfold pm_inI; omega) | exact pm_and_in _ _ | exact pm_shr_in _ _ | exact pm_or_in _ _ | exact pm_xor_in _ _ | exact pm_shl_in _ _ | exact pm_cmp_in _ _ | exact pm_b8_in _ | (unfold pm_inI; split <;> omega)) (fun h => absurd h (show ¬ ((1 : Int) = (0 : Int)) by omega)) (fun _ => ?_)
          refine g_aload_n lk_112_26 rfl ?_
          refine g_getfield lk_112_27 rfl (lay.on (by decide) rfl) (v := ((83 : Nat) : Int)) (lay.rf rfl) ?_
          refine g_iload lk_112_30 rfl ?_
          refine m_iaload (u := []) (M := M) lk_112_32 (lay.ay (by decide) rfl) (by omega) (j := i) (by omega) (v := (e.2.2.1 : Int)) rd3 ?_
          refine g_iload_n lk_112_33 rfl ?_
          refine g_icmp (t := 68) lk_112_34 rfl (by first | (unfold pm_inI; omega) | exact pm_and_in _ _ | exact pm_shr_in _ _ | exact pm_or_in _ _ | exact pm_xor_in _ _ | exact pm_shl_in _ _ | exact pm_cmp_in _ _ | exact pm_b8_in _ | (unfold pm_inI; split <;> omega)) (by first | (unfold pm_inI; omega) | exact pm_and_in _ _ | exact pm_shr_in _ _ | exact pm_or_in _ _ | exact pm_xor_in _ _ | exact pm_shl_in _ _ | exact pm_cmp_in _ _ | exact pm_b8_in _ | (unfold pm_inI; split <;> omega)) (fun h3 => ?_) (fun h3 => ?_)
          · replace h3 : (g : Int) ≤ (e.2.2.1 : Int) := h3
            refine g_iinc (ls' := [(2, ((76 : Nat) : Int)), (2, ((24 : Nat) : Int)), (0, (g : Int)), (0, ((sm f i : Nat) : Int)), (0, ((i : Int) + 1))]) lk_112_68 rfl rfl rfl ?_
            refine g_goto (t := 5) lk_112_71 rfl ?_
            exact go _ (by rw [fi, if_neg (fun w => absurd w.2 (by omega))]; omega)
          · replace h3 : ¬ ((g : Int) ≤ (e.2.2.1 : Int)) := h3
            refine g_iload_n lk_112_37 rfl ?_
            refine g_aload_n lk_112_38 rfl ?_
            refine g_aload_n lk_112_39 rfl ?_
            refine g_getfield lk_112_40 rfl (lay.on (by decide) rfl) (v := ((81 : Nat) : Int)) (lay.rf rfl) ?_
            refine g_iload lk_112_43 rfl ?_
            refine m_iaload (u := []) (M := M) lk_112_45 (lay.ay (by decide) rfl) (by omega) (j := i) (by omega) (v := (e.1 : Int)) rd1 ?_
            refine g_aload_n lk_112_46 rfl ?_
            refine g_getfield lk_112_47 rfl (lay.on (by decide) rfl) (v := ((82 : Nat) : Int)) (lay.rf rfl) ?_
            refine g_iload lk_112_50 rfl ?_
            refine m_iaload (u := []) (M := M) lk_112_52 (lay.ay (by decide) rfl) (by omega) (j := i) (by omega) (v := (e.2.1 : Int)) rd2 ?_
            refine g_aload_n lk_112_53 rfl ?_
            refine g_getfield lk_112_54 rfl (lay.on (by decide) rfl) (v := ((77 : Nat) : Int)) (lay.rf rfl) ?_
            refine g_getfield lk_112_57 rfl (lay.on (by decide) rfl) (v := ((79 : Nat) : Int)) (lay.rf rfl) ?_
            refine g_iload lk_112_60 rfl ?_
            refine m_iaload (u := []) (M := M) lk_112_62 (lay.ay (by decide) rfl) (by omega) (j := i) (by omega) (v := (v : Int)) xx ?_
            refine g_virtual (p := 24) (Qc := _) lk_112_63 rfl (Nat.le_of_ble_eq_true rfl) rfl rfl (lay.on (by decide) rfl) (Nat.le_of_ble_eq_true rfl) (Nat.le_of_ble_eq_true rfl) (Nat.zero_le _) (Nat.zero_le _) (fl) ?_
            rintro _ N4 ⟨rfl, hN4⟩
            rw [hN4]
            show Wp _ 112 66 [(2, ((76 : Nat) : Int)), (2, ((24 : Nat) : Int)), (0, (g : Int)), (0, ((sm f i : Nat) : Int)), (0, (i : Int))] [(0, (nU T e.1 e.2.1 v : Int)), (0, ((sm f i : Nat) : Int))] M _ _ _
            refine g_iadd lk_112_66 ?_
            refine g_istore_n (ls' := [(2, ((76 : Nat) : Int)), (2, ((24 : Nat) : Int)), (0, (g : Int)), (0, (((sm f i : Nat) : Int) + (nU T e.1 e.2.1 v : Int))), (0, (i : Int))]) lk_112_67 rfl rfl ?_
            refine g_iinc (ls' := [(2, ((76 : Nat) : Int)), (2, ((24 : Nat) : Int)), (0, (g : Int)), (0, (((sm f i : Nat) : Int) + (nU T e.1 e.2.1 v : Int))), (0, ((i : Int) + 1))]) lk_112_68 rfl rfl rfl ?_
            refine g_goto (t := 5) lk_112_71 rfl ?_
            exact go _ (by rw [fi, if_pos ⟨by rw [he]; exact q, by omega⟩, Int.natCast_add])
      · rw [if_neg q] at u
        rw [if_neg (by rw [he]; exact fun w => q w.1)] at fi
        clear v9
        refine g_iload lk_112_5 rfl ?_
        refine g_aload_n lk_112_7 rfl ?_
        refine g_getfield lk_112_8 rfl (lay.on (by decide) rfl) (v := ((77 : Nat) : Int)) (lay.rf rfl) ?_
        refine m_getfield (u := []) (M := M) lk_112_11 rfl (lay.on (by decide) rfl) (v := (l : Int)) hct ?_
        refine g_icmp (t := 74) lk_112_14 rfl (by first | (unfold pm_inI; omega) | exact pm_and_in _ _ | exact pm_shr_in _ _ | exact pm_or_in _ _ | exact pm_xor_in _ _ | exact pm_shl_in _ _ | exact pm_cmp_in _ _ | exact pm_b8_in _ | (unfold pm_inI; split <;> omega)) (by first | (unfold pm_inI; omega) | exact pm_and_in _ _ | exact pm_shr_in _ _ | exact pm_or_in _ _ | exact pm_xor_in _ _ | exact pm_shl_in _ _ | exact pm_cmp_in _ _ | exact pm_b8_in _ | (unfold pm_inI; split <;> omega)) (fun h1 => ?_) (fun h1 => ?_)
        · replace h1 : (l : Int) ≤ (i : Int) := h1
          omega
        · replace h1 : ¬ ((l : Int) ≤ (i : Int)) := h1
          refine g_aload_n lk_112_17 rfl ?_
          refine g_iload lk_112_18 rfl ?_
          refine g_virtual (p := 76) (Qc := _) lk_112_20 rfl (Nat.le_of_ble_eq_true rfl) rfl rfl (lay.on (by decide) rfl) (Nat.le_of_ble_eq_true rfl) (Nat.le_of_ble_eq_true rfl) (Nat.zero_le _) (Nat.zero_le _) (u) ?_
          rintro _ N2 ⟨rfl, hN2⟩
          rw [hN2]
          show Wp _ 112 23 [(2, ((76 : Nat) : Int)), (2, ((24 : Nat) : Int)), (0, (g : Int)), (0, ((sm f i : Nat) : Int)), (0, (i : Int))] [(0, 0)] M _ _ _
          refine g_if (t := 68) lk_112_23 rfl (by first | (unfold pm_inI; omega) | exact pm_and_in _ _ | exact pm_shr_in _ _ | exact pm_or_in _ _ | exact pm_xor_in _ _ | exact pm_shl_in _ _ | exact pm_cmp_in _ _ | exact pm_b8_in _ | (unfold pm_inI; split <;> omega)) (fun _ => ?_) (fun h => absurd (show (0 : Int) = (0 : Int) by omega) h)
          refine g_iinc (ls' := [(2, ((76 : Nat) : Int)), (2, ((24 : Nat) : Int)), (0, (g : Int)), (0, ((sm f i : Nat) : Int)), (0, ((i : Int) + 1))]) lk_112_68 rfl rfl rfl ?_
          refine g_goto (t := 5) lk_112_71 rfl ?_
          exact go _ (by rw [fi]; omega)
  show Wp (d + 4) 112 0 [(2, ((76 : Nat) : Int)), (2, ((24 : Nat) : Int)), (0, (g : Int)), (9, 0), (9, 0)] [] M mc ms Q
  refine g_iconst lk_112_0 ?_
  refine g_istore_n (ls' := [(2, ((76 : Nat) : Int)), (2, ((24 : Nat) : Int)), (0, (g : Int)), (0, 0), (9, 0)]) lk_112_1 rfl rfl ?_
  refine g_iconst lk_112_2 ?_
  refine g_istore (ls' := [(2, ((76 : Nat) : Int)), (2, ((24 : Nat) : Int)), (0, (g : Int)), (0, 0), (0, 0)]) lk_112_3 rfl rfl ?_
  exact loop l 0 (by omega)
theorem c_Told_isIdle3 {d mc ms : Nat} {M : pm_M} (lay : Lay M) {T : Tab} (hT : TabOK T) {L : List Nd} {p dp : Nat → Nat} (hX : TdAt M 87 T L p dp) {k : Nat} (hk : k < L.length) :
    pm_E d 101 [(2, ((87 : Nat) : Int)), (0, (k : Int))] M mc ms (fun ρ M' => ρ = some (0, if idl (CM T L p k) then 1 else 0) ∧ M' = M) := by
  obtain ⟨⟨hD, hp, hx⟩, hct, hL, hC⟩ := hX
  obtain ⟨b1, b2, _, _, _, _⟩ := CM_bd hT hD hp _ _ (Nat.lt_succ_self _) hk
  have r6 := lt_64_of hT.1.2 b1
  have c6 := lt_64_of hT.2.1.2 b2
  obtain ⟨c1, c2, _⟩ := hC k hk
  have l31 := hD.2.1
  obtain ⟨e, he⟩ : ∃ e, e = CM T L p k := ⟨_, rfl⟩
  rw [← he] at r6 c6 c1 c2 ⊢
  show Wp d 101 0 [(2, ((87 : Nat) : Int)), (0, (k : Int))] [] M mc ms _
  refine g_aload_n lk_101_0 rfl ?_
  refine g_getfield lk_101_1 rfl (lay.on (by decide) rfl) (v := ((92 : Nat) : Int)) (lay.rf rfl) ?_
  refine g_iload_n lk_101_4 rfl ?_
  refine m_iaload (u := []) (M := M) lk_101_5 (lay.ay (by decide) rfl) (by omega) (j := k) (by omega) (v := (e.1 : Int)) c1 ?_
  refine g_if (t := 18) lk_101_6 rfl (by first | (unfold pm_inI; omega) | exact pm_and_in _ _ | exact pm_shr_in _ _ | exact pm_or_in _ _ | exact pm_xor_in _ _ | exact pm_shl_in _ _ | exact pm_cmp_in _ _ | exact pm_b8_in _ | (unfold pm_inI; split <;> omega)) (fun h1 => ?_) (fun h1 => ?_)
  · replace h1 : (e.1 : Int) = 0 := h1
    refine g_iconst lk_101_18 ?_
    refine g_goto (t := 23) lk_101_19 rfl ?_
    refine g_ireturn lk_101_23 (fun _ => by omega) ?_
    exact ⟨by rw [if_pos (Or.inl (by omega))], rfl⟩
  · replace h1 : ¬ ((e.1 : Int) = 0) := h1
    refine g_aload_n lk_101_9 rfl ?_
    refine g_getfield lk_101_10 rfl (lay.on (by decide) rfl) (v := ((93 : Nat) : Int)) (lay.rf rfl) ?_
    refine g_iload_n lk_101_13 rfl ?_
    refine m_iaload (u := []) (M := M) lk_101_14 (lay.ay (by decide) rfl) (by omega) (j := k) (by omega) (v := (e.2.1 : Int)) c2 ?_
    refine g_if (t := 22) lk_101_15 rfl (by first | (unfold pm_inI; omega) | exact pm_and_in _ _ | exact pm_shr_in _ _ | exact pm_or_in _ _ | exact pm_xor_in _ _ | exact pm_shl_in _ _ | exact pm_cmp_in _ _ | exact pm_b8_in _ | (unfold pm_inI; split <;> omega)) (fun h2 => ?_) (fun h2 => ?_)
    · replace h2 : ¬ (e.2.1 : Int) = 0 := h2
      refine g_iconst lk_101_22 ?_
      refine g_ireturn lk_101_23 (fun _ => by omega) ?_
      exact ⟨by rw [if_neg (by omega)], rfl⟩
    · replace h2 : ¬ (¬ (e.2.1 : Int) = 0) := h2
      refine g_iconst lk_101_18 ?_
      refine g_goto (t := 23) lk_101_19 rfl ?_
      refine g_ireturn lk_101_23 (fun _ => by omega) ?_
      exact ⟨by rw [if_pos (Or.inr (by omega))], rfl⟩
theorem c_Told_isUsedLeaf3 {d mc ms : Nat} {M : pm_M} (lay : Lay M) {T : Tab} (hT : TabOK T) {L : List Nd} {p dp : Nat → Nat} (hX : TdAt M 87 T L p dp) {k : Nat} (hk : k < L.length) :
    pm_E (d + 1) 102 [(2, ((87 : Nat) : Int)), (0, (k : Int))] M mc ms (fun ρ M' => ρ = some (0, if (ndA L k).1 = 0 ∧ ¬ idl (CM T L p k) then 1 else 0) ∧ M' = M) := by
  have id0 := c_Told_isIdle3 (d := d) (mc := 0) (ms := 0) lay hT hX hk
  obtain ⟨⟨hD, hp, hx⟩, hct, hL, hC⟩ := hX
  have xx := (hL k _ (ndA_get hk)).1
  have a1 := (hD.2.2.2 k hk).1
  have l31 := hD.2.1
  obtain ⟨x, hx⟩ : ∃ x, x = (ndA L k).1 := ⟨_, rfl⟩
  rw [← hx] at xx a1 ⊢
  show Wp (d + 1) 102 0 [(2, ((87 : Nat) : Int)), (0, (k : Int))] [] M mc ms _
  by_cases q : idl (CM T L p k)
  · rw [if_pos q] at id0
    refine g_aload_n lk_102_0 rfl ?_
    refine g_getfield lk_102_1 rfl (lay.on (by decide) rfl) (v := ((88 : Nat) : Int)) (lay.rf rfl) ?_
    refine g_getfield lk_102_4 rfl (lay.on (by decide) rfl) (v := ((89 : Nat) : Int)) (lay.rf rfl) ?_
    refine g_iload_n lk_102_7 rfl ?_
    refine m_iaload (u := []) (M := M) lk_102_8 (lay.ay (by decide) rfl) (by omega) (j := k) (by omega) (v := (x : Int)) xx ?_
    refine g_if (t := 24) lk_102_9 rfl (by first | (unfold pm_inI; omega) | exact pm_and_in _ _ | exact pm_shr_in _ _ | exact pm_or_in _ _ | exact pm_xor_in _ _ | exact pm_shl_in _ _ | exact pm_cmp_in _ _ | exact pm_b8_in _ | (unfold pm_inI; split <;> omega)) (fun h1 => ?_) (fun h1 => ?_)
    · replace h1 : ¬ (x : Int) = 0 := h1
      refine g_iconst lk_102_24 ?_
      refine g_ireturn lk_102_25 (fun _ => by omega) ?_
      exact ⟨by rw [if_neg (fun w => w.2 q)], rfl⟩
    · replace h1 : ¬ (¬ (x : Int) = 0) := h1
      refine g_aload_n lk_102_12 rfl ?_
      refine g_iload_n lk_102_13 rfl ?_
      refine g_virtual (p := 87) (Qc := _) lk_102_14 rfl (Nat.le_of_ble_eq_true rfl) rfl rfl (lay.on (by decide) rfl) (Nat.le_of_ble_eq_true rfl) (Nat.le_of_ble_eq_true rfl) (Nat.zero_le _) (Nat.zero_le _) (id0) ?_
      rintro _ N2 ⟨rfl, hN2⟩
      rw [hN2]
      show Wp _ 102 17 [(2, ((87 : Nat) : Int)), (0, (k : Int))] [(0, 1)] M _ _ _
      refine g_if (t := 24) lk_102_17 rfl (by first | (unfold pm_inI; omega) | exact pm_and_in _ _ | exact pm_shr_in _ _ | exact pm_or_in _ _ | exact pm_xor_in _ _ | exact pm_shl_in _ _ | exact pm_cmp_in _ _ | exact pm_b8_in _ | (unfold pm_inI; split <;> omega)) (fun _ => ?_) (fun h => absurd (show ¬ (1 : Int) = (0 : Int) by omega) h)
      refine g_iconst lk_102_24 ?_
      refine g_ireturn lk_102_25 (fun _ => by omega) ?_
      exact ⟨by rw [if_neg (fun w => w.2 q)], rfl⟩
  · rw [if_neg q] at id0
    refine g_aload_n lk_102_0 rfl ?_
    refine g_getfield lk_102_1 rfl (lay.on (by decide) rfl) (v := ((88 : Nat) : Int)) (lay.rf rfl) ?_
    refine g_getfield lk_102_4 rfl (lay.on (by decide) rfl) (v := ((89 : Nat) : Int)) (lay.rf rfl) ?_
    refine g_iload_n lk_102_7 rfl ?_
    refine m_iaload (u := []) (M := M) lk_102_8 (lay.ay (by decide) rfl) (by omega) (j := k) (by omega) (v := (x : Int)) xx ?_
    refine g_if (t := 24) lk_102_9 rfl (by first | (unfold pm_inI; omega) | exact pm_and_in _ _ | exact pm_shr_in _ _ | exact pm_or_in _ _ | exact pm_xor_in _ _ | exact pm_shl_in _ _ | exact pm_cmp_in _ _ | exact pm_b8_in _ | (unfold pm_inI; split <;> omega)) (fun h1 => ?_) (fun h1 => ?_)
    · replace h1 : ¬ (x : Int) = 0 := h1
      refine g_iconst lk_102_24 ?_
      refine g_ireturn lk_102_25 (fun _ => by omega) ?_
      exact ⟨by rw [if_neg (fun w => absurd w.1 (by omega))], rfl⟩
    · replace h1 : ¬ (¬ (x : Int) = 0) := h1
      refine g_aload_n lk_102_12 rfl ?_
      refine g_iload_n lk_102_13 rfl ?_
      refine g_virtual (p := 87) (Qc := _) lk_102_14 rfl (Nat.le_of_ble_eq_true rfl) rfl rfl (lay.on (by decide) rfl) (Nat.le_of_ble_eq_true rfl) (Nat.le_of_ble_eq_true rfl) (Nat.zero_le _) (Nat.zero_le _) (id0) ?_
      rintro _ N2 ⟨rfl, hN2⟩
      rw [hN2]
      show Wp _ 102 17 [(2, ((87 : Nat) : Int)), (0, (k : Int))] [(0, 0)] M _ _ _
      refine g_if (t := 24) lk_102_17 rfl (by first | (unfold pm_inI; omega) | exact pm_and_in _ _ | exact pm_shr_in _ _ | exact pm_or_in _ _ | exact pm_xor_in _ _ | exact pm_shl_in _ _ | exact pm_cmp_in _ _ | exact pm_b8_in _ | (unfold pm_inI; split <;> omega)) (fun h => absurd h (show ¬ (¬ (0 : Int) = (0 : Int)) by omega)) (fun _ => ?_)
      refine g_iconst lk_102_20 ?_
      refine g_goto (t := 25) lk_102_21 rfl ?_
      refine g_ireturn lk_102_25 (fun _ => by omega) ?_
      exact ⟨by rw [if_pos ⟨by omega, q⟩], rfl⟩
theorem c_Told_leafCount3 {d mc ms : Nat} {M : pm_M} (lay : Lay M) {T : Tab} {L : List Nd} {p dp : Nat → Nat} (hX : TdAt M 87 T L p dp) :
    pm_E d 107 [(2, ((87 : Nat) : Int))] M mc ms (fun ρ M' => ρ = some (0, (tLf L : Int)) ∧ M' = M) := by
  obtain ⟨Q, hQ⟩ : ∃ Q : pm_Q, Q = (fun ρ M' => ρ = some (0, (tLf L : Int)) ∧ M' = M) := ⟨_, rfl⟩
  rw [← hQ]
  obtain ⟨⟨hD, hp, hx⟩, hct, hL, hC⟩ := hX
  have l31 := hD.2.1
  obtain ⟨f, hf⟩ : ∃ f : Nat → Nat, f = fun k => if (ndA L k).1 = 0 then 1 else 0 := ⟨_, rfl⟩
  obtain ⟨l, hl⟩ : ∃ l, l = L.length := ⟨_, rfl⟩
  rw [← hl] at hct l31
  have loop : ∀ (n i : Nat), i + n = l → Wp d 107 4 [(2, ((87 : Nat) : Int)), (0, ((sm f i : Nat) : Int)), (0, (i : Int))] [] M mc ms Q := by
    intro n
    induction n with
    | zero =>
      intro i hi
      have e : i = l := by omega
      subst e
      refine g_iload_n lk_107_4 rfl ?_
      refine g_aload_n lk_107_5 rfl ?_
      refine g_getfield lk_107_6 rfl (lay.on (by decide) rfl) (v := ((88 : Nat) : Int)) (lay.rf rfl) ?_
      refine m_getfield (u := []) (M := M) lk_107_9 rfl (lay.on (by decide) rfl) (v := (i : Int)) hct ?_
      refine g_icmp (t := 41) lk_107_12 rfl (by first | (unfold pm_inI; omega) | exact pm_and_in _ _ | exact pm_shr_in _ _ | exact pm_or_in _ _ | exact pm_xor_in _ _ | exact pm_shl_in _ _ | exact pm_cmp_in _ _ | exact pm_b8_in _ | (unfold pm_inI; split <;> omega)) (by first | (unfold pm_inI; omega) | exact pm_and_in _ _ | exact pm_shr_in _ _ | exact pm_or_in _ _ | exact pm_xor_in _ _ | exact pm_shl_in _ _ | exact pm_cmp_in _ _ | exact pm_b8_in _ | (unfold pm_inI; split <;> omega)) (fun h1 => ?_) (fun h1 => ?_)
      · replace h1 : (i : Int) ≤ (i : Int) := h1
        refine g_iload_n lk_107_41 rfl ?_
        refine g_ireturn lk_107_42 (fun h => absurd h (by decide)) ?_
        rw [hQ]
        exact ⟨by unfold tLf; rw [← hl, hf], rfl⟩
      · replace h1 : ¬ ((i : Int) ≤ (i : Int)) := h1
        omega
    | succ n ih =>
      intro i hi
      have hk : i < L.length := by omega
      have xx := (hL i _ (ndA_get hk)).1
      have a1 := (hD.2.2.2 i hk).1
      have fi : f i = if (ndA L i).1 = 0 then 1 else 0 := by rw [hf]
      obtain ⟨x, hx⟩ : ∃ x, x = (ndA L i).1 := ⟨_, rfl⟩
      rw [← hx] at xx a1 fi
      have go : ∀ z : Int, z = ((sm f i + f i : Nat) : Int) → Wp d 107 4 [(2, ((87 : Nat) : Int)), (0, z), (0, (i : Int) + 1)] [] M mc ms Q := fun z hz => by
        rw [hz]; exact ih (i + 1) (by omega)
      refine g_iload_n lk_107_4 rfl ?_
      refine g_aload_n lk_107_5 rfl ?_
      refine g_getfield lk_107_6 rfl (lay.on (by decide) rfl) (v := ((88 : Nat) : Int)) (lay.rf rfl) ?_
      refine m_getfield (u := []) (M := M) lk_107_9 rfl (lay.on (by decide) rfl) (v := (l : Int)) hct ?_
      refine g_icmp (t := 41) lk_107_12 rfl (by first | (unfold pm_inI; omega) | exact pm_and_in _ _ | exact pm_shr_in _ _ | exact pm_or_in _ _ | exact pm_xor_in _ _ | exact pm_shl_in _ _ | exact pm_cmp_in _ _ | exact pm_b8_in _ | (unfold pm_inI; split <;> omega)) (by first | (unfold pm_inI; omega) | exact pm_and_in _ _ | exact pm_shr_in _ _ | exact pm_or_in _ _ | exact pm_xor_in _ _ | exact pm_shl_in _ _ | exact pm_cmp_in _ _ | exact pm_b8_in _ | (unfold pm_inI; split <;> omega)) (fun h1 => ?_) (fun h1 => ?_)
      · replace h1 : (l : Int) ≤ (i : Int) := h1
        omega
      · replace h1 : ¬ ((l : Int) ≤ (i : Int)) := h1
        refine g_iload_n lk_107_15 rfl ?_
        refine g_aload_n lk_107_16 rfl ?_
        refine g_getfield lk_107_17 rfl (lay.on (by decide) rfl) (v := ((88 : Nat) : Int)) (lay.rf rfl) ?_
        refine g_getfield lk_107_20 rfl (lay.on (by decide) rfl) (v := ((89 : Nat) : Int)) (lay.rf rfl) ?_
        refine g_iload_n lk_107_23 rfl ?_
        refine m_iaload (u := []) (M := M) lk_107_24 (lay.ay (by decide) rfl) (by omega) (j := i) (by omega) (v := (x : Int)) xx ?_
        refine g_if (t := 32) lk_107_25 rfl (by first | (unfold pm_inI; omega) | exact pm_and_in _ _ | exact pm_shr_in _ _ | exact pm_or_in _ _ | exact pm_xor_in _ _ | exact pm_shl_in _ _ | exact pm_cmp_in _ _ | exact pm_b8_in _ | (unfold pm_inI; split <;> omega)) (fun h2 => ?_) (fun h2 => ?_)
        · replace h2 : ¬ (x : Int) = 0 := h2
          refine g_iconst lk_107_32 ?_
          refine g_iadd lk_107_33 ?_
          refine g_istore_n (ls' := [(2, ((87 : Nat) : Int)), (0, (((sm f i : Nat) : Int) + 0)), (0, (i : Int))]) lk_107_34 rfl rfl ?_
          refine g_iinc (ls' := [(2, ((87 : Nat) : Int)), (0, (((sm f i : Nat) : Int) + 0)), (0, ((i : Int) + 1))]) lk_107_35 rfl rfl rfl ?_
          refine g_goto (t := 4) lk_107_38 rfl ?_
          exact go _ (by rw [fi, if_neg (by omega)]; omega)
        · replace h2 : ¬ (¬ (x : Int) = 0) := h2
          refine g_iconst lk_107_28 ?_
          refine g_goto (t := 33) lk_107_29 rfl ?_
          refine g_iadd lk_107_33 ?_
          refine g_istore_n (ls' := [(2, ((87 : Nat) : Int)), (0, (((sm f i : Nat) : Int) + 1)), (0, (i : Int))]) lk_107_34 rfl rfl ?_
          refine g_iinc (ls' := [(2, ((87 : Nat) : Int)), (0, (((sm f i : Nat) : Int) + 1)), (0, ((i : Int) + 1))]) lk_107_35 rfl rfl rfl ?_
          refine g_goto (t := 4) lk_107_38 rfl ?_
          exact go _ (by rw [fi, if_pos (by omega)]; omega)
  show Wp d 107 0 [(2, ((87 : Nat) : Int)), (9, 0), (9, 0)] [] M mc ms Q
  refine g_iconst lk_107_0 ?_
  refine g_istore_n (ls' := [(2, ((87 : Nat) : Int)), (0, 0), (9, 0)]) lk_107_1 rfl rfl ?_
  refine g_iconst lk_107_2 ?_
  refine g_istore_n (ls' := [(2, ((87 : Nat) : Int)), (0, 0), (0, 0)]) lk_107_3 rfl rfl ?_
  exact loop l 0 (by omega)
theorem c_Told_idleCount3 {d mc ms : Nat} {M : pm_M} (lay : Lay M) {T : Tab} (hT : TabOK T) {L : List Nd} {p dp : Nat → Nat} (hX : TdAt M 87 T L p dp) :
    pm_E (d + 1) 108 [(2, ((87 : Nat) : Int))] M mc ms (fun ρ M' => ρ = some (0, (tId T L p : Int)) ∧ M' = M) := by
  obtain ⟨Q, hQ⟩ : ∃ Q : pm_Q, Q = (fun ρ M' => ρ = some (0, (tId T L p : Int)) ∧ M' = M) := ⟨_, rfl⟩
  rw [← hQ]
  have iu := fun k hk => c_Told_isIdle3 (d := d) (mc := 0) (ms := 0) lay hT hX (k := k) hk
  obtain ⟨⟨hD, hp, hx⟩, hct, hL, hC⟩ := hX
  have l31 := hD.2.1
  obtain ⟨f, hf⟩ : ∃ f : Nat → Nat, f = fun k => if idl (CM T L p k) then 1 else 0 := ⟨_, rfl⟩
  obtain ⟨l, hl⟩ : ∃ l, l = L.length := ⟨_, rfl⟩
  rw [← hl] at hct l31
  have loop : ∀ (n i : Nat), i + n = l → Wp (d + 1) 108 4 [(2, ((87 : Nat) : Int)), (0, ((sm f i : Nat) : Int)), (0, (i : Int))] [] M mc ms Q := by
    intro n
    induction n with
    | zero =>
      intro i hi
      have e : i = l := by omega
      subst e
      refine g_iload_n lk_108_4 rfl ?_
      refine g_aload_n lk_108_5 rfl ?_
      refine g_getfield lk_108_6 rfl (lay.on (by decide) rfl) (v := ((88 : Nat) : Int)) (lay.rf rfl) ?_
      refine m_getfield (u := []) (M := M) lk_108_9 rfl (lay.on (by decide) rfl) (v := (i : Int)) hct ?_
      refine g_icmp (t := 37) lk_108_12 rfl (by first | (unfold pm_inI; omega) | exact pm_and_in _ _ | exact pm_shr_in _ _ | exact pm_or_in _ _ | exact pm_xor_in _ _ | exact pm_shl_in _ _ | exact pm_cmp_in _ _ | exact pm_b8_in _ | (unfold pm_inI; split <;> omega)) (by first | (unfold pm_inI; omega) | exact pm_and_in _ _ | exact pm_shr_in _ _ | exact pm_or_in _ _ | exact pm_xor_in _ _ | exact pm_shl_in _ _ | exact pm_cmp_in _ _ | exact pm_b8_in _ | (unfold pm_inI; split <;> omega)) (fun h1 => ?_) (fun h1 => ?_)
      · replace h1 : (i : Int) ≤ (i : Int) := h1
        refine g_iload_n lk_108_37 rfl ?_
        refine g_ireturn lk_108_38 (fun h => absurd h (by decide)) ?_
        rw [hQ]
        exact ⟨by unfold tId; rw [← hl, hf], rfl⟩
      · replace h1 : ¬ ((i : Int) ≤ (i : Int)) := h1
        omega
    | succ n ih =>
      intro i hi
      have hk : i < L.length := by omega
      have u := iu i hk
      have fi : f i = if idl (CM T L p i) then 1 else 0 := by rw [hf]
      have go : ∀ z : Int, z = ((sm f i + f i : Nat) : Int) → Wp (d + 1) 108 4 [(2, ((87 : Nat) : Int)), (0, z), (0, (i : Int) + 1)] [] M mc ms Q := fun z hz => by
        rw [hz]; exact ih (i + 1) (by omega)
      by_cases q : idl (CM T L p i)
      · rw [if_pos q] at u fi
        refine g_iload_n lk_108_4 rfl ?_
        refine g_aload_n lk_108_5 rfl ?_
        refine g_getfield lk_108_6 rfl (lay.on (by decide) rfl) (v := ((88 : Nat) : Int)) (lay.rf rfl) ?_
        refine m_getfield (u := []) (M := M) lk_108_9 rfl (lay.on (by decide) rfl) (v := (l : Int)) hct ?_
        refine g_icmp (t := 37) lk_108_12 rfl (by first | (unfold pm_inI; omega) | exact pm_and_in _ _ | exact pm_shr_in _ _ | exact pm_or_in _ _ | exact pm_xor_in _ _ | exact pm_shl_in _ _ | exact pm_cmp_in _ _ | exact pm_b8_in _ | (unfold pm_inI; split <;> omega)) (by first | (unfold pm_inI; omega) | exact pm_and_in _ _ | exact pm_shr_in _ _ | exact pm_or_in _ _ | exact pm_xor_in _ _ | exact pm_shl_in _ _ | exact pm_cmp_in _ _ | exact pm_b8_in _ | (unfold pm_inI; split <;> omega)) (fun h1 => ?_) (fun h1 => ?_)
        · replace h1 : (l : Int) ≤ (i : Int) := h1
          omega
        · replace h1 : ¬ ((l : Int) ≤ (i : Int)) := h1
          refine g_iload_n lk_108_15 rfl ?_
          refine g_aload_n lk_108_16 rfl ?_
          refine g_iload_n lk_108_17 rfl ?_
          refine g_virtual (p := 87) (Qc := _) lk_108_18 rfl (Nat.le_of_ble_eq_true rfl) rfl rfl (lay.on (by decide) rfl) (Nat.le_of_ble_eq_true rfl) (Nat.le_of_ble_eq_true rfl) (Nat.zero_le _) (Nat.zero_le _) (u) ?_
          rintro _ N2 ⟨rfl, hN2⟩
          rw [hN2]
          show Wp _ 108 21 [(2, ((87 : Nat) : Int)), (0, ((sm f i : Nat) : Int)), (0, (i : Int))] [(0, 1), (0, ((sm f i : Nat) : Int))] M _ _ _
          refine g_if (t := 28) lk_108_21 rfl (by first | (unfold pm_inI; omega) | exact pm_and_in _ _ | exact pm_shr_in _ _ | exact pm_or_in _ _ | exact pm_xor_in _ _ | exact pm_shl_in _ _ | exact pm_cmp_in _ _ | exact pm_b8_in _ | (unfold pm_inI; split <;> omega)) (fun h => absurd h (show ¬ ((1 : Int) = (0 : Int)) by omega)) (fun _ => ?_)
          refine g_iconst lk_108_24 ?_
          refine g_goto (t := 29) lk_108_25 rfl ?_
          refine g_iadd lk_108_29 ?_
          refine g_istore_n (ls' := [(2, ((87 : Nat) : Int)), (0, (((sm f i : Nat) : Int) + 1)), (0, (i : Int))]) lk_108_30 rfl rfl ?_
          refine g_iinc (ls' := [(2, ((87 : Nat) : Int)), (0, (((sm f i : Nat) : Int) + 1)), (0, ((i : Int) + 1))]) lk_108_31 rfl rfl rfl ?_
          refine g_goto (t := 4) lk_108_34 rfl ?_
          exact go _ (by rw [fi]; omega)
      · rw [if_neg q] at u fi
        refine g_iload_n lk_108_4 rfl ?_
        refine g_aload_n lk_108_5 rfl ?_
        refine g_getfield lk_108_6 rfl (lay.on (by decide) rfl) (v := ((88 : Nat) : Int)) (lay.rf rfl) ?_
        refine m_getfield (u := []) (M := M) lk_108_9 rfl (lay.on (by decide) rfl) (v := (l : Int)) hct ?_
        refine g_icmp (t := 37) lk_108_12 rfl (by first | (unfold pm_inI; omega) | exact pm_and_in _ _ | exact pm_shr_in _ _ | exact pm_or_in _ _ | exact pm_xor_in _ _ | exact pm_shl_in _ _ | exact pm_cmp_in _ _ | exact pm_b8_in _ | (unfold pm_inI; split <;> omega)) (by first | (unfold pm_inI; omega) | exact pm_and_in _ _ | exact pm_shr_in _ _ | exact pm_or_in _ _ | exact pm_xor_in _ _ | exact pm_shl_in _ _ | exact pm_cmp_in _ _ | exact pm_b8_in _ | (unfold pm_inI; split <;> omega)) (fun h1 => ?_) (fun h1 => ?_)
        · replace h1 : (l : Int) ≤ (i : Int) := h1
          omega
        · replace h1 : ¬ ((l : Int) ≤ (i : Int)) := h1
          refine g_iload_n lk_108_15 rfl ?_
          refine g_aload_n lk_108_16 rfl ?_
          refine g_iload_n lk_108_17 rfl ?_
          refine g_virtual (p := 87) (Qc := _) lk_108_18 rfl (Nat.le_of_ble_eq_true rfl) rfl rfl (lay.on (by decide) rfl) (Nat.le_of_ble_eq_true rfl) (Nat.le_of_ble_eq_true rfl) (Nat.zero_le _) (Nat.zero_le _) (u) ?_
          rintro _ N2 ⟨rfl, hN2⟩
          rw [hN2]
          show Wp _ 108 21 [(2, ((87 : Nat) : Int)), (0, ((sm f i : Nat) : Int)), (0, (i : Int))] [(0, 0), (0, ((sm f i : Nat) : Int))] M _ _ _
          refine g_if (t := 28) lk_108_21 rfl (by first | (unfold pm_inI; omega) | exact pm_and_in _ _ | exact pm_shr_in _ _ | exact pm_or_in _ _ | exact pm_xor_in _ _ | exact pm_shl_in _ _ | exact pm_cmp_in _ _ | exact pm_b8_in _ | (unfold pm_inI; split <;> omega)) (fun _ => ?_) (fun h => absurd (show (0 : Int) = (0 : Int) by omega) h)
          refine g_iconst lk_108_28 ?_
          refine g_iadd lk_108_29 ?_
          refine g_istore_n (ls' := [(2, ((87 : Nat) : Int)), (0, (((sm f i : Nat) : Int) + 0)), (0, (i : Int))]) lk_108_30 rfl rfl ?_
          refine g_iinc (ls' := [(2, ((87 : Nat) : Int)), (0, (((sm f i : Nat) : Int) + 0)), (0, ((i : Int) + 1))]) lk_108_31 rfl rfl rfl ?_
          refine g_goto (t := 4) lk_108_34 rfl ?_
          exact go _ (by rw [fi]; omega)
  show Wp (d + 1) 108 0 [(2, ((87 : Nat) : Int)), (9, 0), (9, 0)] [] M mc ms Q
  refine g_iconst lk_108_0 ?_
  refine g_istore_n (ls' := [(2, ((87 : Nat) : Int)), (0, 0), (9, 0)]) lk_108_1 rfl rfl ?_
  refine g_iconst lk_108_2 ?_
  refine g_istore_n (ls' := [(2, ((87 : Nat) : Int)), (0, 0), (0, 0)]) lk_108_3 rfl rfl ?_
  exact loop l 0 (by omega)
theorem c_Told_worstCost3 {d mc ms : Nat} {M : pm_M} (lay : Lay M) {T : Tab} (hT : TabOK T) {L : List Nd} {p dp : Nat → Nat} (hX : TdAt M 87 T L p dp) :
    pm_E (d + 2) 109 [(2, ((87 : Nat) : Int))] M mc ms (fun ρ M' => ρ = some (0, (x2 T (fun r c => wc T L r c 9 0) : Int)) ∧ M' = M) := by
  obtain ⟨Q, hQ⟩ : ∃ Q : pm_Q, Q = (fun ρ M' => ρ = some (0, (x2 T (fun r c => wc T L r c 9 0) : Int)) ∧ M' = M) := ⟨_, rfl⟩
  rw [← hQ]
  have iu := fun k hk => c_Told_isUsedLeaf3 (d := d) (mc := 0) (ms := 0) lay hT hX (k := k) hk
  obtain ⟨⟨hD, hp, hx⟩, hct, hL, hC⟩ := hX
  have l31 := hD.2.1
  have fin := x2_leaf hT hD hp (fun k => (CM T L p k).2.2.2.1) (fun r c => wc T L r c 9 0) (fun r c hr hc => (leaf_at hT hD hp hr hc).2.2.2.2.1)
  obtain ⟨f, hf⟩ : ∃ f : Nat → Nat, f = fun k => if (ndA L k).1 = 0 ∧ ¬ idl (CM T L p k) then (CM T L p k).2.2.2.1 else 0 := ⟨_, rfl⟩
  have fin2 : xm f L.length = x2 T (fun r c => wc T L r c 9 0) := by rw [hf]; exact fin
  obtain ⟨l, hl⟩ : ∃ l, l = L.length := ⟨_, rfl⟩
  rw [← hl] at hct l31 fin2
  have fb : ∀ i, i < l → f i ≤ 81 := fun i hi => by
    obtain ⟨_, _, _, b4, _, _⟩ := CM_bd hT hD hp _ _ (Nat.lt_succ_self _) (show i < L.length by omega)
    have := (hx i (by omega)).1
    rw [hf]
    show (if (ndA L i).1 = 0 ∧ ¬ idl (CM T L p i) then (CM T L p i).2.2.2.1 else 0) ≤ 81
    split <;> omega
  have loop : ∀ (n i : Nat), i + n = l → Wp (d + 2) 109 4 [(2, ((87 : Nat) : Int)), (0, ((xm f i : Nat) : Int)), (0, (i : Int))] [] M mc ms Q := by
    intro n
    induction n with
    | zero =>
      intro i hi
      have e : i = l := by omega
      subst e
      refine g_iload_n lk_109_4 rfl ?_
      refine g_aload_n lk_109_5 rfl ?_
      refine g_getfield lk_109_6 rfl (lay.on (by decide) rfl) (v := ((88 : Nat) : Int)) (lay.rf rfl) ?_
      refine m_getfield (u := []) (M := M) lk_109_9 rfl (lay.on (by decide) rfl) (v := (i : Int)) hct ?_
      refine g_icmp (t := 44) lk_109_12 rfl (by first | (unfold pm_inI; omega) | exact pm_and_in _ _ | exact pm_shr_in _ _ | exact pm_or_in _ _ | exact pm_xor_in _ _ | exact pm_shl_in _ _ | exact pm_cmp_in _ _ | exact pm_b8_in _ | (unfold pm_inI; split <;> omega)) (by first | (unfold pm_inI; omega) | exact pm_and_in _ _ | exact pm_shr_in _ _ | exact pm_or_in _ _ | exact pm_xor_in _ _ | exact pm_shl_in _ _ | exact pm_cmp_in _ _ | exact pm_b8_in _ | (unfold pm_inI; split <;> omega)) (fun h1 => ?_) (fun h1 => ?_)
      · replace h1 : (i : Int) ≤ (i : Int) := h1
        refine g_iload_n lk_109_44 rfl ?_
        refine g_ireturn lk_109_45 (fun h => absurd h (by decide)) ?_
        rw [hQ]
        exact ⟨by rw [fin2], rfl⟩
      · replace h1 : ¬ ((i : Int) ≤ (i : Int)) := h1
        omega
    | succ n ih =>
      intro i hi
      have hk : i < L.length := by omega
      have u := iu i hk
      have rd := (hC i hk).2.2.2.1
      have fi : f i = if (ndA L i).1 = 0 ∧ ¬ idl (CM T L p i) then (CM T L p i).2.2.2.1 else 0 := by rw [hf]
      have f8 := fb i (by omega)
      have x8 : xm f i ≤ 81 := xm_le (fun j hj => fb j (by omega))
      obtain ⟨a, ha⟩ : ∃ a, a = xm f i := ⟨_, rfl⟩
      have go : ∀ z : Int, z = ((max a (f i) : Nat) : Int) → Wp (d + 2) 109 4 [(2, ((87 : Nat) : Int)), (0, z), (0, (i : Int) + 1)] [] M mc ms Q := fun z hz => by
        rw [hz, ha]; exact ih (i + 1) (by omega)
      rw [← ha] at x8 ⊢
      obtain ⟨s, hs⟩ : ∃ s, s = (CM T L p i).2.2.2.1 := ⟨_, rfl⟩
      rw [← hs] at rd fi
      by_cases q : (ndA L i).1 = 0 ∧ ¬ idl (CM T L p i)
      · rw [if_pos q] at u fi
        rw [fi] at f8
        refine g_iload_n lk_109_4 rfl ?_
        refine g_aload_n lk_109_5 rfl ?_
        refine g_getfield lk_109_6 rfl (lay.on (by decide) rfl) (v := ((88 : Nat) : Int)) (lay.rf rfl) ?_
        refine m_getfield (u := []) (M := M) lk_109_9 rfl (lay.on (by decide) rfl) (v := (l : Int)) hct ?_
        refine g_icmp (t := 44) lk_109_12 rfl (by first | (unfold pm_inI; omega) | exact pm_and_in _ _ | exact pm_shr_in _ _ | exact pm_or_in _ _ | exact pm_xor_in _ _ | exact pm_shl_in _ _ | exact pm_cmp_in _ _ | exact pm_b8_in _ | (unfold pm_inI; split <;> omega)) (by first | (unfold pm_inI; omega) | exact pm_and_in _ _ | exact pm_shr_in _ _ | exact pm_or_in _ _ | exact pm_xor_in _ _ | exact pm_shl_in _ _ | exact pm_cmp_in _ _ | exact pm_b8_in _ | (unfold pm_inI; split <;> omega)) (fun h1 => ?_) (fun h1 => ?_)
        · replace h1 : (l : Int) ≤ (i : Int) := h1
          omega
        · replace h1 : ¬ ((l : Int) ≤ (i : Int)) := h1
          refine g_aload_n lk_109_15 rfl ?_
          refine g_iload_n lk_109_16 rfl ?_
          refine g_virtual (p := 87) (Qc := _) lk_109_17 rfl (Nat.le_of_ble_eq_true rfl) rfl rfl (lay.on (by decide) rfl) (Nat.le_of_ble_eq_true rfl) (Nat.le_of_ble_eq_true rfl) (Nat.zero_le _) (Nat.zero_le _) (u) ?_
          rintro _ N2 ⟨rfl, hN2⟩
          rw [hN2]
          show Wp _ 109 20 [(2, ((87 : Nat) : Int)), (0, (a : Int)), (0, (i : Int))] [(0, 1)] M _ _ _
          refine g_if (t := 36) lk_109_20 rfl (by first | (unfold pm_inI; omega) | exact pm_and_in _ _ | exact pm_shr_in _ _ | exact pm_or_in _ _ | exact pm_xor_in _ _ | exact pm_shl_in _ _ | exact pm_cmp_in _ _ | exact pm_b8_in _ | (unfold pm_inI; split <;> omega)) (fun h => absurd h (show ¬ ((1 : Int) = (0 : Int)) by omega)) (fun _ => ?_)
          refine g_iload_n lk_109_23 rfl ?_
          refine g_aload_n lk_109_24 rfl ?_
          refine g_getfield lk_109_25 rfl (lay.on (by decide) rfl) (v := ((95 : Nat) : Int)) (lay.rf rfl) ?_
          refine g_iload_n lk_109_28 rfl ?_
          refine m_iaload (u := []) (M := M) lk_109_29 (lay.ay (by decide) rfl) (by omega) (j := i) (by omega) (v := (s : Int)) rd ?_
          refine g_mmax lk_109_30 (by first | (unfold pm_inI; omega) | exact pm_and_in _ _ | exact pm_shr_in _ _ | exact pm_or_in _ _ | exact pm_xor_in _ _ | exact pm_shl_in _ _ | exact pm_cmp_in _ _ | exact pm_b8_in _ | (unfold pm_inI; split <;> omega)) (by first | (unfold pm_inI; omega) | exact pm_and_in _ _ | exact pm_shr_in _ _ | exact pm_or_in _ _ | exact pm_xor_in _ _ | exact pm_shl_in _ _ | exact pm_cmp_in _ _ | exact pm_b8_in _ | (unfold pm_inI; split <;> omega)) (Nat.le_of_ble_eq_true rfl) ?_
          refine g_goto (t := 37) lk_109_33 rfl ?_
          refine g_istore_n (ls' := [(2, ((87 : Nat) : Int)), (0, (max (a : Int) (s : Int))), (0, (i : Int))]) lk_109_37 rfl rfl ?_
          refine g_iinc (ls' := [(2, ((87 : Nat) : Int)), (0, (max (a : Int) (s : Int))), (0, ((i : Int) + 1))]) lk_109_38 rfl rfl rfl ?_
          refine g_goto (t := 4) lk_109_41 rfl ?_
          exact go _ (by rw [fi]; omega)
      · rw [if_neg q] at u fi
        refine g_iload_n lk_109_4 rfl ?_
        refine g_aload_n lk_109_5 rfl ?_
        refine g_getfield lk_109_6 rfl (lay.on (by decide) rfl) (v := ((88 : Nat) : Int)) (lay.rf rfl) ?_
        refine m_getfield (u := []) (M := M) lk_109_9 rfl (lay.on (by decide) rfl) (v := (l : Int)) hct ?_
        refine g_icmp (t := 44) lk_109_12 rfl (by first | (unfold pm_inI; omega) | exact pm_and_in _ _ | exact pm_shr_in _ _ | exact pm_or_in _ _ | exact pm_xor_in _ _ | exact pm_shl_in _ _ | exact pm_cmp_in _ _ | exact pm_b8_in _ | (unfold pm_inI; split <;> omega)) (by first | (unfold pm_inI; omega) | exact pm_and_in _ _ | exact pm_shr_in _ _ | exact pm_or_in _ _ | exact pm_xor_in _ _ | exact pm_shl_in _ _ | exact pm_cmp_in _ _ | exact pm_b8_in _ | (unfold pm_inI; split <;> omega)) (fun h1 => ?_) (fun h1 => ?_)
        · replace h1 : (l : Int) ≤ (i : Int) := h1
          omega
        · replace h1 : ¬ ((l : Int) ≤ (i : Int)) := h1
          refine g_aload_n lk_109_15 rfl ?_
          refine g_iload_n lk_109_16 rfl ?_
          refine g_virtual (p := 87) (Qc := _) lk_109_17 rfl (Nat.le_of_ble_eq_true rfl) rfl rfl (lay.on (by decide) rfl) (Nat.le_of_ble_eq_true rfl) (Nat.le_of_ble_eq_true rfl) (Nat.zero_le _) (Nat.zero_le _) (u) ?_
          rintro _ N2 ⟨rfl, hN2⟩
          rw [hN2]
          show Wp _ 109 20 [(2, ((87 : Nat) : Int)), (0, (a : Int)), (0, (i : Int))] [(0, 0)] M _ _ _
          refine g_if (t := 36) lk_109_20 rfl (by first | (unfold pm_inI; omega) | exact pm_and_in _ _ | exact pm_shr_in _ _ | exact pm_or_in _ _ | exact pm_xor_in _ _ | exact pm_shl_in _ _ | exact pm_cmp_in _ _ | exact pm_b8_in _ | (unfold pm_inI; split <;> omega)) (fun _ => ?_) (fun h => absurd (show (0 : Int) = (0 : Int) by omega) h)
          refine g_iload_n lk_109_36 rfl ?_
          refine g_istore_n (ls' := [(2, ((87 : Nat) : Int)), (0, (a : Int)), (0, (i : Int))]) lk_109_37 rfl rfl ?_
          refine g_iinc (ls' := [(2, ((87 : Nat) : Int)), (0, (a : Int)), (0, ((i : Int) + 1))]) lk_109_38 rfl rfl rfl ?_
          refine g_goto (t := 4) lk_109_41 rfl ?_
          exact go _ (by rw [fi]; omega)
  show Wp (d + 2) 109 0 [(2, ((87 : Nat) : Int)), (9, 0), (9, 0)] [] M mc ms Q
  refine g_iconst lk_109_0 ?_
  refine g_istore_n (ls' := [(2, ((87 : Nat) : Int)), (0, 0), (9, 0)]) lk_109_1 rfl rfl ?_
  refine g_iconst lk_109_2 ?_
  refine g_istore_n (ls' := [(2, ((87 : Nat) : Int)), (0, 0), (0, 0)]) lk_109_3 rfl rfl ?_
  exact loop l 0 (by omega)
theorem c_Told_mostTurns3 {d mc ms : Nat} {M : pm_M} (lay : Lay M) {T : Tab} (hT : TabOK T) {L : List Nd} {p dp : Nat → Nat} (hX : TdAt M 87 T L p dp) :
    pm_E (d + 2) 110 [(2, ((87 : Nat) : Int))] M mc ms (fun ρ M' => ρ = some (0, (x2 T (fun r c => wt L r c 9 0 0) : Int)) ∧ M' = M) := by
  obtain ⟨Q, hQ⟩ : ∃ Q : pm_Q, Q = (fun ρ M' => ρ = some (0, (x2 T (fun r c => wt L r c 9 0 0) : Int)) ∧ M' = M) := ⟨_, rfl⟩
  rw [← hQ]
  have iu := fun k hk => c_Told_isUsedLeaf3 (d := d) (mc := 0) (ms := 0) lay hT hX (k := k) hk
  obtain ⟨⟨hD, hp, hx⟩, hct, hL, hC⟩ := hX
  have l31 := hD.2.1
  have fin := x2_leaf hT hD hp (fun k => (CM T L p k).2.2.2.2.1) (fun r c => wt L r c 9 0 0) (fun r c hr hc => (leaf_at hT hD hp hr hc).2.2.2.2.2.1)
  obtain ⟨f, hf⟩ : ∃ f : Nat → Nat, f = fun k => if (ndA L k).1 = 0 ∧ ¬ idl (CM T L p k) then (CM T L p k).2.2.2.2.1 else 0 := ⟨_, rfl⟩
  have fin2 : xm f L.length = x2 T (fun r c => wt L r c 9 0 0) := by rw [hf]; exact fin
  obtain ⟨l, hl⟩ : ∃ l, l = L.length := ⟨_, rfl⟩
  rw [← hl] at hct l31 fin2
  have fb : ∀ i, i < l → f i ≤ 81 := fun i hi => by
    obtain ⟨_, _, _, _, b5, _⟩ := CM_bd hT hD hp _ _ (Nat.lt_succ_self _) (show i < L.length by omega)
    have := (hx i (by omega)).1
    rw [hf]
    show (if (ndA L i).1 = 0 ∧ ¬ idl (CM T L p i) then (CM T L p i).2.2.2.2.1 else 0) ≤ 81
    split <;> omega
  have loop : ∀ (n i : Nat), i + n = l → Wp (d + 2) 110 4 [(2, ((87 : Nat) : Int)), (0, ((xm f i : Nat) : Int)), (0, (i : Int))] [] M mc ms Q := by
    intro n
    induction n with
    | zero =>
      intro i hi
      have e : i = l := by omega
      subst e
      refine g_iload_n lk_110_4 rfl ?_
      refine g_aload_n lk_110_5 rfl ?_
      refine g_getfield lk_110_6 rfl (lay.on (by decide) rfl) (v := ((88 : Nat) : Int)) (lay.rf rfl) ?_
      refine m_getfield (u := []) (M := M) lk_110_9 rfl (lay.on (by decide) rfl) (v := (i : Int)) hct ?_
      refine g_icmp (t := 44) lk_110_12 rfl (by first | (unfold pm_inI; omega) | exact pm_and_in _ _ | exact pm_shr_in _ _ | exact pm_or_in _ _ | exact pm_xor_in _ _ | exact pm_shl_in _ _ | exact pm_cmp_in _ _ | exact pm_b8_in _ | (unfold pm_inI; split <;> omega)) (by first | (unfold pm_inI; omega) | exact pm_and_in _ _ | exact pm_shr_in _ _ | exact pm_or_in _ _ | exact pm_xor_in _ _ | exact pm_shl_in _ _ | exact pm_cmp_in _ _ | exact pm_b8_in _ | (unfold pm_inI; split <;> omega)) (fun h1 => ?_) (fun h1 => ?_)
      · replace h1 : (i : Int) ≤ (i : Int) := h1
        refine g_iload_n lk_110_44 rfl ?_
        refine g_ireturn lk_110_45 (fun h => absurd h (by decide)) ?_
        rw [hQ]
        exact ⟨by rw [fin2], rfl⟩
      · replace h1 : ¬ ((i : Int) ≤ (i : Int)) := h1
        omega
    | succ n ih =>
      intro i hi
      have hk : i < L.length := by omega
      have u := iu i hk
      have rd := (hC i hk).2.2.2.2.1
      have fi : f i = if (ndA L i).1 = 0 ∧ ¬ idl (CM T L p i) then (CM T L p i).2.2.2.2.1 else 0 := by rw [hf]
      have f8 := fb i (by omega)
      have x8 : xm f i ≤ 81 := xm_le (fun j hj => fb j (by omega))
      obtain ⟨a, ha⟩ : ∃ a, a = xm f i := ⟨_, rfl⟩
      have go : ∀ z : Int, z = ((max a (f i) : Nat) : Int) → Wp (d + 2) 110 4 [(2, ((87 : Nat) : Int)), (0, z), (0, (i : Int) + 1)] [] M mc ms Q := fun z hz => by
        rw [hz, ha]; exact ih (i + 1) (by omega)
      rw [← ha] at x8 ⊢
      obtain ⟨s, hs⟩ : ∃ s, s = (CM T L p i).2.2.2.2.1 := ⟨_, rfl⟩
      rw [← hs] at rd fi
      by_cases q : (ndA L i).1 = 0 ∧ ¬ idl (CM T L p i)
      · rw [if_pos q] at u fi
        rw [fi] at f8
        refine g_iload_n lk_110_4 rfl ?_
        refine g_aload_n lk_110_5 rfl ?_
        refine g_getfield lk_110_6 rfl (lay.on (by decide) rfl) (v := ((88 : Nat) : Int)) (lay.rf rfl) ?_
        refine m_getfield (u := []) (M := M) lk_110_9 rfl (lay.on (by decide) rfl) (v := (l : Int)) hct ?_
        refine g_icmp (t := 44) lk_110_12 rfl (by first | (unfold pm_inI; omega) | exact pm_and_in _ _ | exact pm_shr_in _ _ | exact pm_or_in _ _ | exact pm_xor_in _ _ | exact pm_shl_in _ _ | exact pm_cmp_in _ _ | exact pm_b8_in _ | (unfold pm_inI; split <;> omega)) (by first | (unfold pm_inI; omega) | exact pm_and_in _ _ | exact pm_shr_in _ _ | exact pm_or_in _ _ | exact pm_xor_in _ _ | exact pm_shl_in _ _ | exact pm_cmp_in _ _ | exact pm_b8_in _ | (unfold pm_inI; split <;> omega)) (fun h1 => ?_) (fun h1 => ?_)
        · replace h1 : (l : Int) ≤ (i : Int) := h1
          omega
        · replace h1 : ¬ ((l : Int) ≤ (i : Int)) := h1
          refine g_aload_n lk_110_15 rfl ?_
          refine g_iload_n lk_110_16 rfl ?_
          refine g_virtual (p := 87) (Qc := _) lk_110_17 rfl (Nat.le_of_ble_eq_true rfl) rfl rfl (lay.on (by decide) rfl) (Nat.le_of_ble_eq_true rfl) (Nat.le_of_ble_eq_true rfl) (Nat.zero_le _) (Nat.zero_le _) (u) ?_
          rintro _ N2 ⟨rfl, hN2⟩
          rw [hN2]
          show Wp _ 110 20 [(2, ((87 : Nat) : Int)), (0, (a : Int)), (0, (i : Int))] [(0, 1)] M _ _ _
          refine g_if (t := 36) lk_110_20 rfl (by first | (unfold pm_inI; omega) | exact pm_and_in _ _ | exact pm_shr_in _ _ | exact pm_or_in _ _ | exact pm_xor_in _ _ | exact pm_shl_in _ _ | exact pm_cmp_in _ _ | exact pm_b8_in _ | (unfold pm_inI; split <;> omega)) (fun h => absurd h (show ¬ ((1 : Int) = (0 : Int)) by omega)) (fun _ => ?_)
          refine g_iload_n lk_110_23 rfl ?_
          refine g_aload_n lk_110_24 rfl ?_
          refine g_getfield lk_110_25 rfl (lay.on (by decide) rfl) (v := ((96 : Nat) : Int)) (lay.rf rfl) ?_
          refine g_iload_n lk_110_28 rfl ?_
          refine m_iaload (u := []) (M := M) lk_110_29 (lay.ay (by decide) rfl) (by omega) (j := i) (by omega) (v := (s : Int)) rd ?_
          refine g_mmax lk_110_30 (by first | (unfold pm_inI; omega) | exact pm_and_in _ _ | exact pm_shr_in _ _ | exact pm_or_in _ _ | exact pm_xor_in _ _ | exact pm_shl_in _ _ | exact pm_cmp_in _ _ | exact pm_b8_in _ | (unfold pm_inI; split <;> omega)) (by first | (unfold pm_inI; omega) | exact pm_and_in _ _ | exact pm_shr_in _ _ | exact pm_or_in _ _ | exact pm_xor_in _ _ | exact pm_shl_in _ _ | exact pm_cmp_in _ _ | exact pm_b8_in _ | (unfold pm_inI; split <;> omega)) (Nat.le_of_ble_eq_true rfl) ?_
          refine g_goto (t := 37) lk_110_33 rfl ?_
          refine g_istore_n (ls' := [(2, ((87 : Nat) : Int)), (0, (max (a : Int) (s : Int))), (0, (i : Int))]) lk_110_37 rfl rfl ?_
          refine g_iinc (ls' := [(2, ((87 : Nat) : Int)), (0, (max (a : Int) (s : Int))), (0, ((i : Int) + 1))]) lk_110_38 rfl rfl rfl ?_
          refine g_goto (t := 4) lk_110_41 rfl ?_
          exact go _ (by rw [fi]; omega)
      · rw [if_neg q] at u fi
        refine g_iload_n lk_110_4 rfl ?_
        refine g_aload_n lk_110_5 rfl ?_
        refine g_getfield lk_110_6 rfl (lay.on (by decide) rfl) (v := ((88 : Nat) : Int)) (lay.rf rfl) ?_
        refine m_getfield (u := []) (M := M) lk_110_9 rfl (lay.on (by decide) rfl) (v := (l : Int)) hct ?_
        refine g_icmp (t := 44) lk_110_12 rfl (by first | (unfold pm_inI; omega) | exact pm_and_in _ _ | exact pm_shr_in _ _ | exact pm_or_in _ _ | exact pm_xor_in _ _ | exact pm_shl_in _ _ | exact pm_cmp_in _ _ | exact pm_b8_in _ | (unfold pm_inI; split <;> omega)) (by first | (unfold pm_inI; omega) | exact pm_and_in _ _ | exact pm_shr_in _ _ | exact pm_or_in _ _ | exact pm_xor_in _ _ | exact pm_shl_in _ _ | exact pm_cmp_in _ _ | exact pm_b8_in _ | (unfold pm_inI; split <;> omega)) (fun h1 => ?_) (fun h1 => ?_)
        · replace h1 : (l : Int) ≤ (i : Int) := h1
          omega
        · replace h1 : ¬ ((l : Int) ≤ (i : Int)) := h1
          refine g_aload_n lk_110_15 rfl ?_
          refine g_iload_n lk_110_16 rfl ?_
          refine g_virtual (p := 87) (Qc := _) lk_110_17 rfl (Nat.le_of_ble_eq_true rfl) rfl rfl (lay.on (by decide) rfl) (Nat.le_of_ble_eq_true rfl) (Nat.le_of_ble_eq_true rfl) (Nat.zero_le _) (Nat.zero_le _) (u) ?_
          rintro _ N2 ⟨rfl, hN2⟩
          rw [hN2]
          show Wp _ 110 20 [(2, ((87 : Nat) : Int)), (0, (a : Int)), (0, (i : Int))] [(0, 0)] M _ _ _
          refine g_if (t := 36) lk_110_20 rfl (by first | (unfold pm_inI; omega) | exact pm_and_in _ _ | exact pm_shr_in _ _ | exact pm_or_in _ _ | exact pm_xor_in _ _ | exact pm_shl_in _ _ | exact pm_cmp_in _ _ | exact pm_b8_in _ | (unfold pm_inI; split <;> omega)) (fun _ => ?_) (fun h => absurd (show (0 : Int) = (0 : Int) by omega) h)
          refine g_iload_n lk_110_36 rfl ?_
          refine g_istore_n (ls' := [(2, ((87 : Nat) : Int)), (0, (a : Int)), (0, (i : Int))]) lk_110_37 rfl rfl ?_
          refine g_iinc (ls' := [(2, ((87 : Nat) : Int)), (0, (a : Int)), (0, ((i : Int) + 1))]) lk_110_38 rfl rfl rfl ?_
          refine g_goto (t := 4) lk_110_41 rfl ?_
          exact go _ (by rw [fi]; omega)
  show Wp (d + 2) 110 0 [(2, ((87 : Nat) : Int)), (9, 0), (9, 0)] [] M mc ms Q
  refine g_iconst lk_110_0 ?_
  refine g_istore_n (ls' := [(2, ((87 : Nat) : Int)), (0, 0), (9, 0)]) lk_110_1 rfl rfl ?_
  refine g_iconst lk_110_2 ?_
  refine g_istore_n (ls' := [(2, ((87 : Nat) : Int)), (0, 0), (0, 0)]) lk_110_3 rfl rfl ?_
  exact loop l 0 (by omega)
theorem c_Told_sumOfCosts3 {d mc ms : Nat} {M : pm_M} (lay : Lay M) {T : Tab} (hT : TabOK T) (hM : TbAt M 24 T) {L : List Nd} {p dp : Nat → Nat} (hX : TdAt M 87 T L p dp) :
    pm_E (d + 5) 111 [(2, ((87 : Nat) : Int)), (2, ((24 : Nat) : Int))] M mc ms (fun ρ M' => ρ = some (0, (tSum T L : Int)) ∧ M' = M) := by
  obtain ⟨Q, hQ⟩ : ∃ Q : pm_Q, Q = (fun ρ M' => ρ = some (0, (tSum T L : Int)) ∧ M' = M) := ⟨_, rfl⟩
  rw [← hQ]
  have iu := fun k hk => c_Told_isUsedLeaf3 (d := d + 3) (mc := 0) (ms := 0) lay hT hX (k := k) hk
  obtain ⟨⟨hD, hp, hx⟩, hct, hL, hC⟩ := hX
  have l31 := hD.2.1
  have fin := tSum_eq2 hT hD hp
  obtain ⟨f, hf⟩ : ∃ f : Nat → Nat, f = fun k => if (ndA L k).1 = 0 ∧ ¬ idl (CM T L p k) then (CM T L p k).2.2.2.1 * nA T (CM T L p k).1 (CM T L p k).2.1 else 0 := ⟨_, rfl⟩
  rw [← hf] at fin
  obtain ⟨l, hl⟩ : ∃ l, l = L.length := ⟨_, rfl⟩
  rw [← hl] at hct l31 fin
  have loop : ∀ (n i : Nat), i + n = l → Wp (d + 5) 111 4 [(2, ((87 : Nat) : Int)), (2, ((24 : Nat) : Int)), (0, ((sm f i : Nat) : Int)), (0, (i : Int))] [] M mc ms Q := by
    intro n
    induction n with
    | zero =>
      intro i hi
      have e : i = l := by omega
      subst e
      refine g_iload_n lk_111_4 rfl ?_
      refine g_aload_n lk_111_5 rfl ?_
      refine g_getfield lk_111_6 rfl (lay.on (by decide) rfl) (v := ((88 : Nat) : Int)) (lay.rf rfl) ?_
      refine m_getfield (u := []) (M := M) lk_111_9 rfl (lay.on (by decide) rfl) (v := (i : Int)) hct ?_
      refine g_icmp (t := 55) lk_111_12 rfl (by first | (unfold pm_inI; omega) | exact pm_and_in _ _ | exact pm_shr_in _ _ | exact pm_or_in _ _ | exact pm_xor_in _ _ | exact pm_shl_in _ _ | exact pm_cmp_in _ _ | exact pm_b8_in _ | (unfold pm_inI; split <;> omega)) (by first | (unfold pm_inI; omega) | exact pm_and_in _ _ | exact pm_shr_in _ _ | exact pm_or_in _ _ | exact pm_xor_in _ _ | exact pm_shl_in _ _ | exact pm_cmp_in _ _ | exact pm_b8_in _ | (unfold pm_inI; split <;> omega)) (fun h1 => ?_) (fun h1 => ?_)
      · replace h1 : (i : Int) ≤ (i : Int) := h1
        refine g_iload_n lk_111_55 rfl ?_
        refine g_ireturn lk_111_56 (fun h => absurd h (by decide)) ?_
        rw [hQ]
        exact ⟨by rw [fin], rfl⟩
      · replace h1 : ¬ ((i : Int) ≤ (i : Int)) := h1
        omega
    | succ n ih =>
      intro i hi
      have hk : i < L.length := by omega
      have u := iu i hk
      obtain ⟨rd1, rd2, _, rd4, _⟩ := hC i hk
      obtain ⟨b1, b2, _, _, _, _⟩ := CM_bd hT hD hp _ _ (Nat.lt_succ_self _) hk
      have fi : f i = if (ndA L i).1 = 0 ∧ ¬ idl (CM T L p i) then (CM T L p i).2.2.2.1 * nA T (CM T L p i).1 (CM T L p i).2.1 else 0 := by rw [hf]
      have go : ∀ z : Int, z = ((sm f i + f i : Nat) : Int) → Wp (d + 5) 111 4 [(2, ((87 : Nat) : Int)), (2, ((24 : Nat) : Int)), (0, z), (0, (i : Int) + 1)] [] M mc ms Q := fun z hz => by
        rw [hz]; exact ih (i + 1) (by omega)
      obtain ⟨e, he⟩ : ∃ e, e = CM T L p i := ⟨_, rfl⟩
      rw [← he] at rd1 rd2 rd4 fi b1 b2
      have r6 := lt_64_of hT.1.2 b1
      have c6 := lt_64_of hT.2.1.2 b2
      have fl := c_Table_filledIn (d := d) (mc := 0) (ms := 0) lay (Or.inr rfl) hT hM r6 c6
      rw [uIn_nU hT c6, nU_10] at fl
      by_cases q : (ndA L i).1 = 0 ∧ ¬ idl (CM T L p i)
      · rw [if_pos q] at u
        rw [if_pos (by rw [he]; exact q)] at fi
        refine g_iload_n lk_111_4 rfl ?_
        refine g_aload_n lk_111_5 rfl ?_
        refine g_getfield lk_111_6 rfl (lay.on (by decide) rfl) (v := ((88 : Nat) : Int)) (lay.rf rfl) ?_
        refine m_getfield (u := []) (M := M) lk_111_9 rfl (lay.on (by decide) rfl) (v := (l : Int)) hct ?_
        refine g_icmp (t := 55) lk_111_12 rfl (by first | (unfold pm_inI; omega) | exact pm_and_in _ _ | exact pm_shr_in _ _ | exact pm_or_in _ _ | exact pm_xor_in _ _ | exact pm_shl_in _ _ | exact pm_cmp_in _ _ | exact pm_b8_in _ | (unfold pm_inI; split <;> omega)) (by first | (unfold pm_inI; omega) | exact pm_and_in _ _ | exact pm_shr_in _ _ | exact pm_or_in _ _ | exact pm_xor_in _ _ | exact pm_shl_in _ _ | exact pm_cmp_in _ _ | exact pm_b8_in _ | (unfold pm_inI; split <;> omega)) (fun h1 => ?_) (fun h1 => ?_)
        · replace h1 : (l : Int) ≤ (i : Int) := h1
          omega
        · replace h1 : ¬ ((l : Int) ≤ (i : Int)) := h1
          refine g_aload_n lk_111_15 rfl ?_
          refine g_iload_n lk_111_16 rfl ?_
          refine g_virtual (p := 87) (Qc := _) lk_111_17 rfl (Nat.le_of_ble_eq_true rfl) rfl rfl (lay.on (by decide) rfl) (Nat.le_of_ble_eq_true rfl) (Nat.le_of_ble_eq_true rfl) (Nat.zero_le _) (Nat.zero_le _) (u) ?_
          rintro _ N2 ⟨rfl, hN2⟩
          rw [hN2]
          show Wp _ 111 20 [(2, ((87 : Nat) : Int)), (2, ((24 : Nat) : Int)), (0, ((sm f i : Nat) : Int)), (0, (i : Int))] [(0, 1)] M _ _ _
          refine g_if (t := 49) lk_111_20 rfl (by first | (unfold pm_inI; omega) | exact pm_and_in _ _ | exact pm_shr_in _ _ | exact pm_or_in _ _ | exact pm_xor_in _ _ | exact pm_shl_in _ _ | exact pm_cmp_in _ _ | exact pm_b8_in _ | (unfold pm_inI; split <;> omega)) (fun h => absurd h (show ¬ ((1 : Int) = (0 : Int)) by omega)) (fun _ => ?_)
          refine g_iload_n lk_111_23 rfl ?_
          refine g_aload_n lk_111_24 rfl ?_
          refine g_getfield lk_111_25 rfl (lay.on (by decide) rfl) (v := ((95 : Nat) : Int)) (lay.rf rfl) ?_
          refine g_iload_n lk_111_28 rfl ?_
          refine m_iaload (u := []) (M := M) lk_111_29 (lay.ay (by decide) rfl) (by omega) (j := i) (by omega) (v := (e.2.2.2.1 : Int)) rd4 ?_
          refine g_aload_n lk_111_30 rfl ?_
          refine g_aload_n lk_111_31 rfl ?_
          refine g_getfield lk_111_32 rfl (lay.on (by decide) rfl) (v := ((92 : Nat) : Int)) (lay.rf rfl) ?_
          refine g_iload_n lk_111_35 rfl ?_
          refine m_iaload (u := []) (M := M) lk_111_36 (lay.ay (by decide) rfl) (by omega) (j := i) (by omega) (v := (e.1 : Int)) rd1 ?_
          refine g_aload_n lk_111_37 rfl ?_
          refine g_getfield lk_111_38 rfl (lay.on (by decide) rfl) (v := ((93 : Nat) : Int)) (lay.rf rfl) ?_
          refine g_iload_n lk_111_41 rfl ?_
          refine m_iaload (u := []) (M := M) lk_111_42 (lay.ay (by decide) rfl) (by omega) (j := i) (by omega) (v := (e.2.1 : Int)) rd2 ?_
          refine g_virtual (p := 24) (Qc := _) lk_111_43 rfl (Nat.le_of_ble_eq_true rfl) rfl rfl (lay.on (by decide) rfl) (Nat.le_of_ble_eq_true rfl) (Nat.le_of_ble_eq_true rfl) (Nat.zero_le _) (Nat.zero_le _) (fl) ?_
          rintro _ N3 ⟨rfl, hN3⟩
          rw [hN3]
          show Wp _ 111 46 [(2, ((87 : Nat) : Int)), (2, ((24 : Nat) : Int)), (0, ((sm f i : Nat) : Int)), (0, (i : Int))] [(0, (nA T e.1 e.2.1 : Int)), (0, (e.2.2.2.1 : Int)), (0, ((sm f i : Nat) : Int))] M _ _ _
          refine g_imul lk_111_46 ?_
          refine g_iadd lk_111_47 ?_
          refine g_istore_n (ls' := [(2, ((87 : Nat) : Int)), (2, ((24 : Nat) : Int)), (0, (((sm f i : Nat) : Int) + ((e.2.2.2.1 : Int) * (nA T e.1 e.2.1 : Int)))), (0, (i : Int))]) lk_111_48 rfl rfl ?_
          refine g_iinc (ls' := [(2, ((87 : Nat) : Int)), (2, ((24 : Nat) : Int)), (0, (((sm f i : Nat) : Int) + ((e.2.2.2.1 : Int) * (nA T e.1 e.2.1 : Int)))), (0, ((i : Int) + 1))]) lk_111_49 rfl rfl rfl ?_
          refine g_goto (t := 4) lk_111_52 rfl ?_
          exact go _ (by rw [fi, Int.natCast_add, Int.natCast_mul])
      · rw [if_neg q] at u
        rw [if_neg (by rw [he]; exact q)] at fi
        refine g_iload_n lk_111_4 rfl ?_
        refine g_aload_n lk_111_5 rfl ?_
        refine g_getfield lk_111_6 rfl (lay.on (by decide) rfl) (v := ((88 : Nat) : Int)) (lay.rf rfl) ?_
        refine m_getfield (u := []) (M := M) lk_111_9 rfl (lay.on (by decide) rfl) (v := (l : Int)) hct ?_
        refine g_icmp (t := 55) lk_111_12 rfl (by first | (unfold pm_inI; omega) | exact pm_and_in _ _ | exact pm_shr_in _ _ | exact pm_or_in _ _ | exact pm_xor_in _ _ | exact pm_shl_in _ _ | exact pm_cmp_in _ _ | exact pm_b8_in _ | (unfold pm_inI; split <;> omega)) (by first | (unfold pm_inI; omega) | exact pm_and_in _ _ | exact pm_shr_in _ _ | exact pm_or_in _ _ | exact pm_xor_in _ _ | exact pm_shl_in _ _ | exact pm_cmp_in _ _ | exact pm_b8_in _ | (unfold pm_inI; split <;> omega)) (fun h1 => ?_) (fun h1 => ?_)
        · replace h1 : (l : Int) ≤ (i : Int) := h1
          omega
        · replace h1 : ¬ ((l : Int) ≤ (i : Int)) := h1
          refine g_aload_n lk_111_15 rfl ?_
          refine g_iload_n lk_111_16 rfl ?_
          refine g_virtual (p := 87) (Qc := _) lk_111_17 rfl (Nat.le_of_ble_eq_true rfl) rfl rfl (lay.on (by decide) rfl) (Nat.le_of_ble_eq_true rfl) (Nat.le_of_ble_eq_true rfl) (Nat.zero_le _) (Nat.zero_le _) (u) ?_
          rintro _ N2 ⟨rfl, hN2⟩
          rw [hN2]
          show Wp _ 111 20 [(2, ((87 : Nat) : Int)), (2, ((24 : Nat) : Int)), (0, ((sm f i : Nat) : Int)), (0, (i : Int))] [(0, 0)] M _ _ _
          refine g_if (t := 49) lk_111_20 rfl (by first | (unfold pm_inI; omega) | exact pm_and_in _ _ | exact pm_shr_in _ _ | exact pm_or_in _ _ | exact pm_xor_in _ _ | exact pm_shl_in _ _ | exact pm_cmp_in _ _ | exact pm_b8_in _ | (unfold pm_inI; split <;> omega)) (fun _ => ?_) (fun h => absurd (show (0 : Int) = (0 : Int) by omega) h)
          refine g_iinc (ls' := [(2, ((87 : Nat) : Int)), (2, ((24 : Nat) : Int)), (0, ((sm f i : Nat) : Int)), (0, ((i : Int) + 1))]) lk_111_49 rfl rfl rfl ?_
          refine g_goto (t := 4) lk_111_52 rfl ?_
          exact go _ (by rw [fi]; omega)
  show Wp (d + 5) 111 0 [(2, ((87 : Nat) : Int)), (2, ((24 : Nat) : Int)), (9, 0), (9, 0)] [] M mc ms Q
  refine g_iconst lk_111_0 ?_
  refine g_istore_n (ls' := [(2, ((87 : Nat) : Int)), (2, ((24 : Nat) : Int)), (0, 0), (9, 0)]) lk_111_1 rfl rfl ?_
  refine g_iconst lk_111_2 ?_
  refine g_istore_n (ls' := [(2, ((87 : Nat) : Int)), (2, ((24 : Nat) : Int)), (0, 0), (0, 0)]) lk_111_3 rfl rfl ?_
  exact loop l 0 (by omega)
theorem c_Told_wrongAbove3 {d mc ms : Nat} {M : pm_M} (lay : Lay M) {T : Tab} (hT : TabOK T) (hM : TbAt M 24 T) {L : List Nd} {p dp : Nat → Nat} (hX : TdAt M 87 T L p dp) {g : Nat} (hg : g ≤ 9) :
    pm_E (d + 4) 112 [(2, ((87 : Nat) : Int)), (2, ((24 : Nat) : Int)), (0, (g : Int))] M mc ms (fun ρ M' => ρ = some (0, (tWro T L g : Int)) ∧ M' = M) := by
  obtain ⟨Q, hQ⟩ : ∃ Q : pm_Q, Q = (fun ρ M' => ρ = some (0, (tWro T L g : Int)) ∧ M' = M) := ⟨_, rfl⟩
  rw [← hQ]
  have iu := fun k hk => c_Told_isUsedLeaf3 (d := d + 2) (mc := 0) (ms := 0) lay hT hX (k := k) hk
  obtain ⟨⟨hD, hp, hx⟩, hct, hL, hC⟩ := hX
  have l31 := hD.2.1
  have fin := tWro_eq2 hT hD hp g
  obtain ⟨f, hf⟩ : ∃ f : Nat → Nat, f = fun k => if ((ndA L k).1 = 0 ∧ ¬ idl (CM T L p k)) ∧ (CM T L p k).2.2.1 < g then nU T (CM T L p k).1 (CM T L p k).2.1 (ndA L k).2.1 else 0 := ⟨_, rfl⟩
  rw [← hf] at fin
  obtain ⟨l, hl⟩ : ∃ l, l = L.length := ⟨_, rfl⟩
  rw [← hl] at hct l31 fin
  have loop : ∀ (n i : Nat), i + n = l → Wp (d + 4) 112 5 [(2, ((87 : Nat) : Int)), (2, ((24 : Nat) : Int)), (0, (g : Int)), (0, ((sm f i : Nat) : Int)), (0, (i : Int))] [] M mc ms Q := by
    intro n
    induction n with
    | zero =>
      intro i hi
      have e : i = l := by omega
      subst e
      refine g_iload lk_112_5 rfl ?_
      refine g_aload_n lk_112_7 rfl ?_
      refine g_getfield lk_112_8 rfl (lay.on (by decide) rfl) (v := ((88 : Nat) : Int)) (lay.rf rfl) ?_
      refine m_getfield (u := []) (M := M) lk_112_11 rfl (lay.on (by decide) rfl) (v := (i : Int)) hct ?_
      refine g_icmp (t := 74) lk_112_14 rfl (by first | (unfold pm_inI; omega) | exact pm_and_in _ _ | exact pm_shr_in _ _ | exact pm_or_in _ _ | exact pm_xor_in _ _ | exact pm_shl_in _ _ | exact pm_cmp_in _ _ | exact pm_b8_in _ | (unfold pm_inI; split <;> omega)) (by first | (unfold pm_inI; omega) | exact pm_and_in _ _ | exact pm_shr_in _ _ | exact pm_or_in _ _ | exact pm_xor_in _ _ | exact pm_shl_in _ _ | exact pm_cmp_in _ _ | exact pm_b8_in _ | (unfold pm_inI; split <;> omega)) (fun h1 => ?_) (fun h1 => ?_)
      · replace h1 : (i : Int) ≤ (i : Int) := h1
        refine g_iload_n lk_112_74 rfl ?_
        refine g_ireturn lk_112_75 (fun h => absurd h (by decide)) ?_
        rw [hQ]
        exact ⟨by rw [fin], rfl⟩
      · replace h1 : ¬ ((i : Int) ≤ (i : Int)) := h1
        omega
    | succ n ih =>
      intro i hi
      have hk : i < L.length := by omega
      have u := iu i hk
      have xx := (hL i _ (ndA_get hk)).2.1
      obtain ⟨d8, v9⟩ := hx i hk
      obtain ⟨rd1, rd2, rd3, _, _⟩ := hC i hk
      obtain ⟨b1, b2, b3, _, _, _⟩ := CM_bd hT hD hp _ _ (Nat.lt_succ_self _) hk
      have fi : f i = if ((ndA L i).1 = 0 ∧ ¬ idl (CM T L p i)) ∧ (CM T L p i).2.2.1 < g then nU T (CM T L p i).1 (CM T L p i).2.1 (ndA L i).2.1 else 0 := by rw [hf]
      have go : ∀ z : Int, z = ((sm f i + f i : Nat) : Int) → Wp (d + 4) 112 5 [(2, ((87 : Nat) : Int)), (2, ((24 : Nat) : Int)), (0, (g : Int)), (0, z), (0, (i : Int) + 1)] [] M mc ms Q := fun z hz => by
        rw [hz]; exact ih (i + 1) (by omega)
      obtain ⟨e, he⟩ : ∃ e, e = CM T L p i := ⟨_, rfl⟩
      rw [← he] at rd1 rd2 rd3 fi b1 b2 b3
      have r6 := lt_64_of hT.1.2 b1
      have c6 := lt_64_of hT.2.1.2 b2
      obtain ⟨v, hv⟩ : ∃ v, v = (ndA L i).2.1 := ⟨_, rfl⟩
      rw [← hv] at xx fi v9
      by_cases q : (ndA L i).1 = 0 ∧ ¬ idl (CM T L p i)
      · have v99 := v9 q.1
        have fl := c_Table_unlikeIn (d := d) (mc := 0) (ms := 0) lay (Or.inr rfl) hT hM r6 c6 (v := v) (by omega)
        rw [uIn_nU hT c6] at fl
        rw [if_pos q] at u
        clear v9
        refine g_iload lk_112_5 rfl ?_
        refine g_aload_n lk_112_7 rfl ?_
        refine g_getfield lk_112_8 rfl (lay.on (by decide) rfl) (v := ((88 : Nat) : Int)) (lay.rf rfl) ?_
        refine m_getfield (u := []) (M := M) lk_112_11 rfl (lay.on (by decide) rfl) (v := (l : Int)) hct ?_
        refine g_icmp (t := 74) lk_112_14 rfl (by first | (unfold pm_inI; omega) | exact pm_and_in _ _ | exact pm_shr_in _ _ | exact pm_or_in _ _ | exact pm_xor_in _ _ | exact pm_shl_in _ _ | exact pm_cmp_in _ _ | exact pm_b8_in _ | (unfold pm_inI; split <;> omega)) (by first | (unfold pm_inI; omega) | exact pm_and_in _ _ | exact pm_shr_in _ _ | exact pm_or_in _ _ | exact pm_xor_in _ _ | exact pm_shl_in _ _ | exact pm_cmp_in _ _ | exact pm_b8_in _ | (unfold pm_inI; split <;> omega)) (fun h1 => ?_) (fun h1 => ?_)
        · replace h1 : (l : Int) ≤ (i : Int) := h1
          omega
        · replace h1 : ¬ ((l : Int) ≤ (i : Int)) := h1
          refine g_aload_n lk_112_17 rfl ?_
          refine g_iload lk_112_18 rfl ?_
          refine g_virtual (p := 87) (Qc := _) lk_112_20 rfl (Nat.le_of_ble_eq_true rfl) rfl rfl (lay.on (by decide) rfl) (Nat.le_of_ble_eq_true rfl) (Nat.le_of_ble_eq_true rfl) (Nat.zero_le _) (Nat.zero_le _) (u) ?_
          rintro _ N2 ⟨rfl, hN2⟩
          rw [hN2]
          show Wp _ 112 23 [(2, ((87 : Nat) : Int)), (2, ((24 : Nat) : Int)), (0, (g : Int)), (0, ((sm f i : Nat) : Int)), (0, (i : Int))] [(0, 1)] M _ _ _
          refine g_if (t := 68) lk_112_23 rfl (by first | (unfold pm_inI; omega) | exact pm_and_in _ _ | exact pm_shr_in _ _ | exact pm_or_in _ _ | exact pm_xor_in _ _ | exact pm_shl_in _ _ | exact pm_cmp_in _ _ | exact pm_b8_in _ | (unfold pm_inI; split <;> omega)) (fun h => absurd h (show ¬ ((1 : Int) = (0 : Int)) by omega)) (fun _ => ?_)
          refine g_aload_n lk_112_26 rfl ?_
          refine g_getfield lk_112_27 rfl (lay.on (by decide) rfl) (v := ((94 : Nat) : Int)) (lay.rf rfl) ?_
          refine g_iload lk_112_30 rfl ?_
          refine m_iaload (u := []) (M := M) lk_112_32 (lay.ay (by decide) rfl) (by omega) (j := i) (by omega) (v := (e.2.2.1 : Int)) rd3 ?_
          refine g_iload_n lk_112_33 rfl ?_
          refine g_icmp (t := 68) lk_112_34 rfl (by first | (unfold pm_inI; omega) | exact pm_and_in _ _ | exact pm_shr_in _ _ | exact pm_or_in _ _ | exact pm_xor_in _ _ | exact pm_shl_in _ _ | exact pm_cmp_in _ _ | exact pm_b8_in _ | (unfold pm_inI; split <;> omega)) (by first | (unfold pm_inI; omega) | exact pm_and_in _ _ | exact pm_shr_in _ _ | exact pm_or_in _ _ | exact pm_xor_in _ _ | exact pm_shl_in _ _ | exact pm_cmp_in _ _ | exact pm_b8_in _ | (unfold pm_inI; split <;> omega)) (fun h3 => ?_) (fun h3 => ?_)
          · replace h3 : (g : Int) ≤ (e.2.2.1 : Int) := h3
            refine g_iinc (ls' := [(2, ((87 : Nat) : Int)), (2, ((24 : Nat) : Int)), (0, (g : Int)), (0, ((sm f i : Nat) : Int)), (0, ((i : Int) + 1))]) lk_112_68 rfl rfl rfl ?_
            refine g_goto (t := 5) lk_112_71 rfl ?_
            exact go _ (by rw [fi, if_neg (fun w => absurd w.2 (by omega))]; omega)
          · replace h3 : ¬ ((g : Int) ≤ (e.2.2.1 : Int)) := h3
            refine g_iload_n lk_112_37 rfl ?_
            refine g_aload_n lk_112_38 rfl ?_
            refine g_aload_n lk_112_39 rfl ?_
            refine g_getfield lk_112_40 rfl (lay.on (by decide) rfl) (v := ((92 : Nat) : Int)) (lay.rf rfl) ?_
            refine g_iload lk_112_43 rfl ?_
            refine m_iaload (u := []) (M := M) lk_112_45 (lay.ay (by decide) rfl) (by omega) (j := i) (by omega) (v := (e.1 : Int)) rd1 ?_
            refine g_aload_n lk_112_46 rfl ?_
            refine g_getfield lk_112_47 rfl (lay.on (by decide) rfl) (v := ((93 : Nat) : Int)) (lay.rf rfl) ?_
            refine g_iload lk_112_50 rfl ?_
            refine m_iaload (u := []) (M := M) lk_112_52 (lay.ay (by decide) rfl) (by omega) (j := i) (by omega) (v := (e.2.1 : Int)) rd2 ?_
            refine g_aload_n lk_112_53 rfl ?_
            refine g_getfield lk_112_54 rfl (lay.on (by decide) rfl) (v := ((88 : Nat) : Int)) (lay.rf rfl) ?_
            refine g_getfield lk_112_57 rfl (lay.on (by decide) rfl) (v := ((90 : Nat) : Int)) (lay.rf rfl) ?_
            refine g_iload lk_112_60 rfl ?_
            refine m_iaload (u := []) (M := M) lk_112_62 (lay.ay (by decide) rfl) (by omega) (j := i) (by omega) (v := (v : Int)) xx ?_
            refine g_virtual (p := 24) (Qc := _) lk_112_63 rfl (Nat.le_of_ble_eq_true rfl) rfl rfl (lay.on (by decide) rfl) (Nat.le_of_ble_eq_true rfl) (Nat.le_of_ble_eq_true rfl) (Nat.zero_le _) (Nat.zero_le _) (fl) ?_
            rintro _ N4 ⟨rfl, hN4⟩
            rw [hN4]
            show Wp _ 112 66 [(2, ((87 : Nat) : Int)), (2, ((24 : Nat) : Int)), (0, (g : Int)), (0, ((sm f i : Nat) : Int)), (0, (i : Int))] [(0, (nU T e.1 e.2.1 v : Int)), (0, ((sm f i : Nat) : Int))] M _ _ _
            refine g_iadd lk_112_66 ?_
            refine g_istore_n (ls' := [(2, ((87 : Nat) : Int)), (2, ((24 : Nat) : Int)), (0, (g : Int)), (0, (((sm f i : Nat) : Int) + (nU T e.1 e.2.1 v : Int))), (0, (i : Int))]) lk_112_67 rfl rfl ?_
            refine g_iinc (ls' := [(2, ((87 : Nat) : Int)), (2, ((24 : Nat) : Int)), (0, (g : Int)), (0, (((sm f i : Nat) : Int) + (nU T e.1 e.2.1 v : Int))), (0, ((i : Int) + 1))]) lk_112_68 rfl rfl rfl ?_
            refine g_goto (t := 5) lk_112_71 rfl ?_
            exact go _ (by rw [fi, if_pos ⟨by rw [he]; exact q, by omega⟩, Int.natCast_add])
      · rw [if_neg q] at u
        rw [if_neg (by rw [he]; exact fun w => q w.1)] at fi
        clear v9
        refine g_iload lk_112_5 rfl ?_
        refine g_aload_n lk_112_7 rfl ?_
        refine g_getfield lk_112_8 rfl (lay.on (by decide) rfl) (v := ((88 : Nat) : Int)) (lay.rf rfl) ?_
        refine m_getfield (u := []) (M := M) lk_112_11 rfl (lay.on (by decide) rfl) (v := (l : Int)) hct ?_
        refine g_icmp (t := 74) lk_112_14 rfl (by first | (unfold pm_inI; omega) | exact pm_and_in _ _ | exact pm_shr_in _ _ | exact pm_or_in _ _ | exact pm_xor_in _ _ | exact pm_shl_in _ _ | exact pm_cmp_in _ _ | exact pm_b8_in _ | (unfold pm_inI; split <;> omega)) (by first | (unfold pm_inI; omega) | exact pm_and_in _ _ | exact pm_shr_in _ _ | exact pm_or_in _ _ | exact pm_xor_in _ _ | exact pm_shl_in _ _ | exact pm_cmp_in _ _ | exact pm_b8_in _ | (unfold pm_inI; split <;> omega)) (fun h1 => ?_) (fun h1 => ?_)
        · replace h1 : (l : Int) ≤ (i : Int) := h1
          omega
        · replace h1 : ¬ ((l : Int) ≤ (i : Int)) := h1
          refine g_aload_n lk_112_17 rfl ?_
          refine g_iload lk_112_18 rfl ?_
          refine g_virtual (p := 87) (Qc := _) lk_112_20 rfl (Nat.le_of_ble_eq_true rfl) rfl rfl (lay.on (by decide) rfl) (Nat.le_of_ble_eq_true rfl) (Nat.le_of_ble_eq_true rfl) (Nat.zero_le _) (Nat.zero_le _) (u) ?_
          rintro _ N2 ⟨rfl, hN2⟩
          rw [hN2]
          show Wp _ 112 23 [(2, ((87 : Nat) : Int)), (2, ((24 : Nat) : Int)), (0, (g : Int)), (0, ((sm f i : Nat) : Int)), (0, (i : Int))] [(0, 0)] M _ _ _
          refine g_if (t := 68) lk_112_23 rfl (by first | (unfold pm_inI; omega) | exact pm_and_in _ _ | exact pm_shr_in _ _ | exact pm_or_in _ _ | exact pm_xor_in _ _ | exact pm_shl_in _ _ | exact pm_cmp_in _ _ | exact pm_b8_in _ | (unfold pm_inI; split <;> omega)) (fun _ => ?_) (fun h => absurd (show (0 : Int) = (0 : Int) by omega) h)
          refine g_iinc (ls' := [(2, ((87 : Nat) : Int)), (2, ((24 : Nat) : Int)), (0, (g : Int)), (0, ((sm f i : Nat) : Int)), (0, ((i : Int) + 1))]) lk_112_68 rfl rfl rfl ?_
          refine g_goto (t := 5) lk_112_71 rfl ?_
          exact go _ (by rw [fi]; omega)
  show Wp (d + 4) 112 0 [(2, ((87 : Nat) : Int)), (2, ((24 : Nat) : Int)), (0, (g : Int)), (9, 0), (9, 0)] [] M mc ms Q
  refine g_iconst lk_112_0 ?_
  refine g_istore_n (ls' := [(2, ((87 : Nat) : Int)), (2, ((24 : Nat) : Int)), (0, (g : Int)), (0, 0), (9, 0)]) lk_112_1 rfl rfl ?_
  refine g_iconst lk_112_2 ?_
  refine g_istore (ls' := [(2, ((87 : Nat) : Int)), (2, ((24 : Nat) : Int)), (0, (g : Int)), (0, 0), (0, 0)]) lk_112_3 rfl rfl ?_
  exact loop l 0 (by omega)
