/-! ===== arrays that are made later: they lie behind all others ===== -/
section G3
variable {d y pc l e1 e2 e4 : Nat} {e3 : Int} {ls st r : List pm_V} {M : pm_M} {cb sb : Nat} {Q : pm_Q} {a b z : Int} {k : Nat}
theorem s_iastore {p n j : Nat} (h : Lk y pc .iastore e1 e2 e3) (ha : pm_ay M p 100 n) (hi : 0 ≤ a ∧ a < n) (hj : a.toNat = j) (k : ∀ N : pm_M, N = pm_up M p (pm_upd (pm_ct M p) j z) → Wp d y (pc + 1) ls r N cb sb Q) : Wp d y pc ls ((0, z) :: (0, a) :: (2, (p : Int)) :: r) M cb sb Q :=
  g_iastore h ha hi (by rw [hj]; exact k _ rfl)
theorem s_lastore {p n j : Nat} (h : Lk y pc .lastore e1 e2 e3) (ha : pm_ay M p 101 n) (hi : 0 ≤ a ∧ a < n) (hj : a.toNat = j) (k : ∀ N : pm_M, N = pm_up M p (pm_upd (pm_ct M p) j z) → Wp d y (pc + 1) ls r N cb sb Q) : Wp d y pc ls ((1, z) :: (0, a) :: (2, (p : Int)) :: r) M cb sb Q :=
  g_lastore h ha hi (by rw [hj]; exact k _ rfl)
end G3
theorem ayM {l : List (Nat × (Nat → Int))} {M : pm_M} {a k n : Nat} (h : pm_ay M a k n) : pm_ay (Mu l M) a k n := by
  unfold pm_ay at h ⊢; rw [Mu_1, Mu_kd, Mu_ln]; exact h
theorem Fr.ay {S : List Nat} {M N : pm_M} (h : Fr S M N) {a k n : Nat} (ha : pm_ay M a k n) : pm_ay N a k n := by
  unfold pm_ay at ha ⊢; rw [h.1, h.2.1, h.2.2.1]; exact ha
theorem Fr.up {S : List Nat} {M N : pm_M} {a : Nat} {f : Nat → Int} (ha : a ∈ S) (hN : N = pm_up M a f) : Fr S M N := by
  subst hN
  refine ⟨rfl, fun b => pm_kd_up M a b f, fun b => pm_ln_up M a b f, fun b hb => pm_ct_ne (fun e => hb (by rw [e]; exact ha))⟩
theorem up_ct {M N : pm_M} {a : Nat} {f : Nat → Int} (hN : N = pm_up M a f) : pm_ct N a = f := by rw [hN, pm_ct_eq]
/-- growing: cells of old stand, but for S -/
def Gr (S : List Nat) (M N : pm_M) : Prop := M.1 ≤ N.1 ∧ (∀ a, a < M.1 → pm_kd N a = pm_kd M a ∧ pm_ln N a = pm_ln M a) ∧ ∀ a, a < M.1 → a ∉ S → pm_ct N a = pm_ct M a
theorem Gr.refl (S : List Nat) (M : pm_M) : Gr S M M := ⟨Nat.le_refl _, fun _ _ => ⟨rfl, rfl⟩, fun _ _ _ => rfl⟩
theorem Gr.trans {S : List Nat} {M N P : pm_M} (h : Gr S M N) (k : Gr S N P) : Gr S M P :=
  ⟨Nat.le_trans h.1 k.1, fun a ha => ⟨(k.2.1 a (Nat.lt_of_lt_of_le ha h.1)).1.trans (h.2.1 a ha).1, (k.2.1 a (Nat.lt_of_lt_of_le ha h.1)).2.trans (h.2.1 a ha).2⟩, fun a ha hs => (k.2.2 a (Nat.lt_of_lt_of_le ha h.1) hs).trans (h.2.2 a ha hs)⟩
theorem Gr.mono {S S' : List Nat} {M N : pm_M} (h : Gr S M N) (hs : ∀ a, a ∈ S → a ∈ S' ∨ M.1 ≤ a) : Gr S' M N :=
  ⟨h.1, h.2.1, fun a ha q => h.2.2 a ha (fun c => by rcases hs a c with e | e; exact q e; omega)⟩
theorem Fr.gr {S : List Nat} {M N : pm_M} (h : Fr S M N) : Gr S M N := ⟨by rw [h.1]; exact Nat.le_refl _, fun a _ => ⟨h.2.1 a, h.2.2.1 a⟩, fun a _ hs => h.2.2.2 a hs⟩
theorem Gr.ct {S : List Nat} {M N : pm_M} (h : Gr S M N) {a : Nat} (ha : a < M.1) (hs : a ∉ S) : pm_ct N a = pm_ct M a := h.2.2 a ha hs
theorem Gr.ay {S : List Nat} {M N : pm_M} (h : Gr S M N) {a k n : Nat} (ha : pm_ay M a k n) : pm_ay N a k n :=
  ⟨ha.1, Nat.lt_of_lt_of_le ha.2.1 h.1, by rw [(h.2.1 a ha.2.1).1]; exact ha.2.2.1, by rw [(h.2.1 a ha.2.1).2]; exact ha.2.2.2⟩
theorem TbAt.gr {S : List Nat} {M N : pm_M} {t : Nat} {T : Tab} (h : TbAt M t T) (k : Gr S M N) (h0 : t + 1 < M.1) (h1 : t ∉ S) (h2 : t + 1 ∉ S) : TbAt N t T := by
  unfold TbAt; rw [k.ct (by omega) h1, k.ct h0 h2]; exact h
/-- an array of the class that was made later, or stands for none yet -/
def own (s : Nat) : Prop := s = 45 ∨ s = 49 ∨ s = 50 ∨ s = 53 ∨ s = 99 ∨ s = 105 ∨ s = 111 ∨ 157 ≤ s
theorem own_fre {s : Nat} (h : own s) : layF.getD s [] = [] := by
  rcases h with h | h | h | h | h | h | h | h
  all_goals first | (subst h; rfl) | skip
  rw [List.getD_eq_getElem?_getD, List.getElem?_eq_none (by show 157 ≤ s; exact h)]; rfl
theorem own_ne {s a : Nat} (h : own s) (ha : (a == 45 || a == 49 || a == 50 || a == 53 || a == 99 || a == 105 || a == 111 || Nat.ble 157 a) = false) : a ≠ s := by
  intro e
  subst e
  rcases h with h | h | h | h | h | h | h | h
  all_goals first | (subst h; cases ha) | skip
  rw [show Nat.ble 157 a = true from Nat.ble_eq.mpr h] at ha
  simp at ha
theorem own_nm {s a : Nat} (h : own s) (ha : (a == 45 || a == 49 || a == 50 || a == 53 || a == 99 || a == 105 || a == 111 || Nat.ble 157 a) = false) : a ∉ [s] := fun q => own_ne h ha (List.mem_singleton.mp q)
theorem Gr.new {M : pm_M} {c : pm_C} : Gr [] M (pm_new M c) := by
  refine ⟨Nat.le_succ _, fun a ha => ?_, fun a ha _ => ?_⟩
  · unfold pm_kd pm_ln pm_new; simp [show a ≠ M.1 by omega]
  · unfold pm_ct pm_new; simp [show a ≠ M.1 by omega]
theorem Lay.new {M : pm_M} (h : Lay M) (c : pm_C) : Lay (pm_new M c) := by
  have g := Gr.new (M := M) (c := c)
  refine ⟨Nat.le_trans h.1 g.1, fun a q ha hq => ?_, fun a k v hv => ?_⟩
  · have := layL_lt hq
    rw [(g.2.1 a (by have := h.1; omega)).1, (g.2.1 a (by have := h.1; omega)).2]; exact h.2.1 a q ha hq
  · have ha : a < M.1 := by
      refine Nat.lt_of_not_le (fun q => ?_)
      unfold layR at hv
      rw [List.getD_eq_getElem?_getD, List.getElem?_eq_none (by show 157 ≤ a; have := h.1; omega)] at hv
      cases hv
    rw [g.ct ha (by simp)]; exact h.2.2 a k v hv
theorem new_ay {M : pm_M} {k n : Nat} {f : Nat → Int} (h : 0 < M.1) : pm_ay (pm_new M (k, n, f)) M.1 k n := by
  refine ⟨h, Nat.lt_succ_self _, ?_, ?_⟩
  · unfold pm_kd pm_new; simp
  · unfold pm_ln pm_new; simp
theorem new_ct {M : pm_M} {k n : Nat} {f : Nat → Int} : pm_ct (pm_new M (k, n, f)) M.1 = f := by unfold pm_ct pm_new; simp
/-! ===== what is seen of an area: values and how many ===== -/
def sv (T : Tab) (rs cs : Nat) : Nat := vIn T rs cs + 1024 * nA T rs cs
theorem nA_36 {T : Tab} (hT : TabOK T) (rs cs : Nat) : nA T rs cs ≤ 36 := by
  have h1 : nA T rs cs ≤ sm (fun _ => 6) (tR T) := sm_le (fun r _ => by
    have h2 : sm (da T rs cs r) (tC T) ≤ sm (fun _ => 1) (tC T) := sm_le (fun c _ => by unfold da; split <;> omega)
    have h3 : ∀ n, sm (fun _ => 1) n = n := fun n => by induction n with
      | zero => rfl
      | succ n ih => show sm (fun _ => 1) n + 1 = _; rw [ih]
    have := hT.2.1
    rw [h3] at h2
    show _ ≤ 6
    omega)
  have h4 : ∀ n, sm (fun _ => 6) n = 6 * n := fun n => by induction n with
    | zero => rfl
    | succ n ih => show sm (fun _ => 6) n + 6 = _; rw [ih]; omega
  have := hT.1
  rw [h4] at h1
  omega
theorem vIn_rows {T : Tab} {rs a b cs : Nat} (h : ∀ r, r < tR T → rs.testBit r = (a.testBit r || b.testBit r)) : vIn T rs cs = vIn T a cs ||| vIn T b cs := by
  apply Nat.eq_of_testBit_eq
  intro w
  rw [Nat.testBit_or, Bool.eq_iff_iff, Bool.or_eq_true, vIn_bit, vIn_bit, vIn_bit]
  constructor
  · rintro ⟨h0, r, c, h1, h2, h3, h4, h5⟩
    rw [h r h1, Bool.or_eq_true] at h3
    rcases h3 with q | q
    · exact Or.inl ⟨h0, r, c, h1, h2, q, h4, h5⟩
    · exact Or.inr ⟨h0, r, c, h1, h2, q, h4, h5⟩
  · rintro (⟨h0, r, c, h1, h2, h3, h4, h5⟩ | ⟨h0, r, c, h1, h2, h3, h4, h5⟩)
    · exact ⟨h0, r, c, h1, h2, by rw [h r h1, h3]; rfl, h4, h5⟩
    · exact ⟨h0, r, c, h1, h2, by rw [h r h1, h3, Bool.or_true], h4, h5⟩
theorem vIn_cols {T : Tab} {rs a b cs : Nat} (h : ∀ c, c < tC T → cs.testBit c = (a.testBit c || b.testBit c)) : vIn T rs cs = vIn T rs a ||| vIn T rs b := by
  apply Nat.eq_of_testBit_eq
  intro w
  rw [Nat.testBit_or, Bool.eq_iff_iff, Bool.or_eq_true, vIn_bit, vIn_bit, vIn_bit]
  constructor
  · rintro ⟨h0, r, c, h1, h2, h3, h4, h5⟩
    rw [h c h2, Bool.or_eq_true] at h4
    rcases h4 with q | q
    · exact Or.inl ⟨h0, r, c, h1, h2, h3, q, h5⟩
    · exact Or.inr ⟨h0, r, c, h1, h2, h3, q, h5⟩
  · rintro (⟨h0, r, c, h1, h2, h3, h4, h5⟩ | ⟨h0, r, c, h1, h2, h3, h4, h5⟩)
    · exact ⟨h0, r, c, h1, h2, h3, by rw [h c h2, h4]; rfl, h5⟩
    · exact ⟨h0, r, c, h1, h2, h3, by rw [h c h2, h4, Bool.or_true], h5⟩
theorem nA_rows {T : Tab} {rs a b cs : Nat} (h : ∀ r, r < tR T → rs.testBit r = (a.testBit r || b.testBit r)) (hd : ∀ r, r < tR T → (a.testBit r && b.testBit r) = false) : nA T rs cs = nA T a cs + nA T b cs := by
  unfold nA
  rw [← sm_add]
  refine sm_congr (fun r hr => ?_)
  rw [← sm_add]
  refine sm_congr (fun c _ => ?_)
  have h1 := h r hr
  have h2 := hd r hr
  unfold da
  rw [h1]
  cases q1 : a.testBit r <;> cases q2 : b.testBit r <;> rw [q1, q2] at h2 <;> simp_all
theorem nA_cols {T : Tab} {rs a b cs : Nat} (h : ∀ c, c < tC T → cs.testBit c = (a.testBit c || b.testBit c)) (hd : ∀ c, c < tC T → (a.testBit c && b.testBit c) = false) : nA T rs cs = nA T rs a + nA T rs b := by
  unfold nA
  rw [← sm_add]
  refine sm_congr (fun r _ => ?_)
  rw [← sm_add]
  refine sm_congr (fun c hc => ?_)
  have h1 := h c hc
  have h2 := hd c hc
  unfold da
  rw [h1]
  cases q1 : a.testBit c <;> cases q2 : b.testBit c <;> rw [q1, q2] at h2 <;> simp_all
theorem vIn_c0 (T : Tab) (rs : Nat) : vIn T rs 0 = 0 := by
  apply Nat.eq_of_testBit_eq
  intro w
  rw [Nat.zero_testBit]
  refine Bool.eq_false_iff.mpr (fun q => ?_)
  obtain ⟨_, r, c, _, _, _, h, _⟩ := (vIn_bit T rs 0 w).mp q
  rw [Nat.zero_testBit] at h; cases h
theorem nA_c0 (T : Tab) (rs : Nat) : nA T rs 0 = 0 := sm_z _ (fun r _ => sm_z _ (fun c _ => by unfold da; simp))
theorem vIn_one {T : Tab} (hT : TabOK T) {r c : Nat} (hr : r < tR T) (hc : c < tC T) : vIn T (2 ^ r) (2 ^ c) = if tX T (6 * r + c) = 10 then 0 else 2 ^ tX T (6 * r + c) := by
  have hx := hT.2.2.1 (6 * r + c)
  apply Nat.eq_of_testBit_eq
  intro w
  rw [Bool.eq_iff_iff, vIn_bit]
  constructor
  · rintro ⟨h0, r', c', h1, h2, h3, h4, h5⟩
    rw [Nat.testBit_two_pow, decide_eq_true_iff] at h3 h4
    subst h3; subst h4
    rw [if_neg (by omega), Nat.testBit_two_pow, decide_eq_true_iff]; exact h5
  · intro h
    split at h
    · rw [Nat.zero_testBit] at h; cases h
    · rw [Nat.testBit_two_pow, decide_eq_true_iff] at h
      exact ⟨by omega, r, c, hr, hc, by rw [Nat.testBit_two_pow]; simp, by rw [Nat.testBit_two_pow]; simp, h⟩
theorem sm_only {f : Nat → Nat} {k : Nat} : ∀ {n : Nat}, k < n → (∀ i, i < n → i ≠ k → f i = 0) → sm f n = f k
  | n + 1, hk, h => by
    show sm f n + f n = f k
    by_cases e : n = k
    · subst e; rw [sm_z _ (fun i hi => h i (by omega) (by omega)), Nat.zero_add]
    · rw [sm_only (n := n) (by omega) (fun i hi hne => h i (by omega) hne), h n (by omega) e, Nat.add_zero]
theorem nA_one {T : Tab} {r c : Nat} (hr : r < tR T) (hc : c < tC T) : nA T (2 ^ r) (2 ^ c) = if tX T (6 * r + c) = 10 then 0 else 1 := by
  unfold nA
  rw [sm_only hr (fun i _ hne => sm_z _ (fun j _ => by unfold da; rw [Nat.testBit_two_pow]; simp [Ne.symm hne])), sm_only hc (fun j _ hne => by unfold da; rw [Nat.testBit_two_pow, Nat.testBit_two_pow]; simp [Ne.symm hne])]
  unfold da
  rw [Nat.testBit_two_pow, Nat.testBit_two_pow]
  by_cases h : tX T (6 * r + c) = 10 <;> simp [h]
theorem sv_lt {T : Tab} (hT : TabOK T) (rs cs : Nat) : sv T rs cs < 37888 := by
  have := vIn_lt T rs cs
  have := nA_36 hT rs cs
  unfold sv; omega
/-! ===== joining ===== -/
theorem and_hi {n : Nat} (hn : n < 4294967296) : n &&& 4294966272 = n - n % 1024 := by
  have h1 : n - n % 1024 = (n / 1024) * 2 ^ 10 := by omega
  rw [h1]
  apply Nat.eq_of_testBit_eq
  intro i
  rw [Nat.testBit_and, Nat.testBit_mul_two_pow, show (4294966272 : Nat) = (2 ^ 22 - 1) * 2 ^ 10 from rfl, Nat.testBit_mul_two_pow, Nat.testBit_two_pow_sub_one, show n / 1024 = n / 2 ^ 10 from rfl, Nat.testBit_div_two_pow]
  by_cases h : 10 ≤ i
  · simp only [h, decide_true, Bool.true_and]
    rw [show i - 10 + 10 = i by omega]
    by_cases h2 : i - 10 < 22
    · simp [h2]
    · rw [Nat.testBit_lt_two_pow (Nat.lt_of_lt_of_le hn (Nat.pow_le_pow_right (n := 2) (by omega) (by omega : 32 ≤ i)))]
      simp
  · simp [h]
theorem pm_andhi {n : Nat} (hn : n < 2147483648) : pm_and (n : Int) (-1024) = ((n - n % 1024 : Nat) : Int) := by
  unfold pm_and
  rw [pm_ofN]
  have h1 : (Int32.ofNat n &&& Int32.ofInt (-1024)).toInt = (BitVec.ofNat 32 n &&& 4294966272#32).toInt := rfl
  have h2 : (BitVec.ofNat 32 n &&& 4294966272#32).toNat = n - n % 1024 := by
    rw [BitVec.toNat_and, BitVec.toNat_ofNat, BitVec.toNat_ofNat, Nat.mod_eq_of_lt (by omega)]
    exact and_hi (by omega)
  rw [h1, BitVec.toInt_eq_toNat_cond, h2, if_pos (by omega)]
theorem pm_andlo {n : Nat} (hn : n < 2147483648) : pm_and (n : Int) 1023 = ((n % 1024 : Nat) : Int) := by
  have h := pm_and_n (a := n) (b := 1023) hn (by omega)
  rw [show ((1023 : Nat) : Int) = 1023 from rfl] at h
  rw [h, show (1023 : Nat) = 2 ^ 10 - 1 from rfl, Nat.and_two_pow_sub_one_eq_mod]
theorem or_mod (a b : Nat) : (a ||| b) % 1024 = (a % 1024) ||| (b % 1024) := Nat.or_mod_two_pow (n := 10)
theorem c_Areas_joined {d mc ms : Nat} {M : pm_M} {a b x y : Nat} (ha : a < 1024) (hb : b < 1024) (hx : x ≤ 36) (hy : y ≤ 36) :
    pm_E d 8 [(0, ((a + 1024 * x : Nat) : Int)), (0, ((b + 1024 * y : Nat) : Int))] M mc ms (fun ρ M' => ρ = some (0, (((a ||| b) + 1024 * (x + y) : Nat) : Int)) ∧ M' = M) := by
  obtain ⟨p, hp⟩ : ∃ p, p = a + 1024 * x := ⟨_, rfl⟩
  obtain ⟨q, hq⟩ : ∃ q, q = b + 1024 * y := ⟨_, rfl⟩
  rw [← hp, ← hq]
  have o1 : p ||| q < 2 ^ 16 := Nat.or_lt_two_pow (by omega) (by omega)
  have e1 : pm_and (pm_or (p : Int) (q : Int)) 1023 = ((a ||| b : Nat) : Int) := by
    rw [pm_or_n (by omega) (by omega), pm_andlo (by omega), or_mod, show p % 1024 = a by omega, show q % 1024 = b by omega]
  have e2 : pm_and (p : Int) (-1024) = ((1024 * x : Nat) : Int) := by rw [pm_andhi (by omega)]; congr 1; omega
  have e3 : pm_and (q : Int) (-1024) = ((1024 * y : Nat) : Int) := by rw [pm_andhi (by omega)]; congr 1; omega
  show Wp d 8 0 [(0, (p : Int)), (0, (q : Int))] [] M mc ms _
  refine g_iload_n lk_8_0 rfl ?_
  refine g_iload_n lk_8_1 rfl ?_
  refine g_ior lk_8_2 ?_
  refine g_sipush lk_8_3 ?_
  refine g_iand lk_8_6 ?_
  refine g_iload_n lk_8_7 rfl ?_
  refine g_sipush lk_8_8 ?_
  refine g_iand lk_8_11 ?_
  refine g_iadd lk_8_12 ?_
  refine g_iload_n lk_8_13 rfl ?_
  refine g_sipush lk_8_14 ?_
  refine g_iand lk_8_17 ?_
  refine g_iadd lk_8_18 ?_
  refine g_ireturn lk_8_19 (fun h => absurd h (by decide)) ?_
  refine ⟨?_, rfl⟩
  rw [e1, e2, e3]
  congr 2
  omega
theorem num_tab : ∀ r : Fin 64, ∀ c : Fin 64, ∀ k : Fin 7, (c : Nat) < 2 ^ (k : Nat) → pm_or (pm_shl ((r : Nat) : Int) ((k : Nat) : Int)) ((c : Nat) : Int) = (((r : Nat) * 2 ^ (k : Nat) + (c : Nat) : Nat) : Int) := by decide +kernel
def num (T : Tab) (rs cs : Nat) : Nat := rs * 2 ^ tC T + cs
theorem num_eq {T : Tab} (hT : TabOK T) {rs cs : Nat} (hr : rs < 64) (hc : cs < 2 ^ tC T) : pm_or (pm_shl (rs : Int) (tC T : Int)) (cs : Int) = (num T rs cs : Int) := by
  have h := hT.2.1
  exact num_tab ⟨rs, hr⟩ ⟨cs, lt_64_of h.2 hc⟩ ⟨tC T, by omega⟩ hc
theorem c_Areas_numberOf {d mc ms : Nat} {M : pm_M} (lay : Lay M) {T : Tab} (hT : TabOK T) (hM : TbAt M 24 T) {rs cs : Nat} (hr : rs < 64) (hc : cs < 2 ^ tC T) :
    pm_E d 2 [(2, ((44 : Nat) : Int)), (0, (rs : Int)), (0, (cs : Int))] M mc ms (fun ρ M' => ρ = some (0, (num T rs cs : Int)) ∧ M' = M) := by
  have e := num_eq hT hr hc
  show Wp d 2 0 [(2, ((44 : Nat) : Int)), (0, (rs : Int)), (0, (cs : Int))] [] M mc ms _
  refine g_iload_n lk_2_0 rfl ?_
  refine g_aload_n lk_2_1 rfl ?_
  refine g_getfield lk_2_2 rfl (lay.on (by decide) rfl) (v := ((24 : Nat) : Int)) (lay.rf rfl) ?_
  refine m_getfield (u := []) (M := M) lk_2_5 rfl (lay.on (by decide) rfl) (v := (tC T : Int)) hM.2.1 ?_
  refine g_ishl lk_2_8 ?_
  refine g_iload_n lk_2_9 rfl ?_
  refine g_ior lk_2_10 ?_
  refine g_ireturn lk_2_11 (fun h => absurd h (by decide)) ?_
  rw [e]
  exact ⟨rfl, rfl⟩
def siz (T : Tab) : Nat := 2 ^ (tR T + tC T)
theorem siz_le {T : Tab} (hT : TabOK T) : siz T ≤ 4096 := by
  have h1 := hT.1
  have h2 := hT.2.1
  exact (Nat.pow_le_pow_right (by omega) (by omega) : 2 ^ (tR T + tC T) ≤ 2 ^ 12)
theorem num_lt {T : Tab} {rs cs : Nat} (hr : rs < 2 ^ tR T) (hc : cs < 2 ^ tC T) : num T rs cs < siz T := by
  unfold num siz
  rw [Nat.pow_add]
  have : (rs + 1) * 2 ^ tC T ≤ 2 ^ tR T * 2 ^ tC T := Nat.mul_le_mul_right _ hr
  rw [Nat.add_mul, Nat.one_mul] at this
  omega
theorem num_inj {T : Tab} {a b c e : Nat} (hb : b < 2 ^ tC T) (he : e < 2 ^ tC T) (h : num T a b = num T c e) : a = c ∧ b = e := by
  unfold num at h
  have h1 : (a * 2 ^ tC T + b) / 2 ^ tC T = a := by rw [Nat.mul_comm, Nat.mul_add_div (Nat.two_pow_pos _), Nat.div_eq_of_lt hb, Nat.add_zero]
  have h2 : (c * 2 ^ tC T + e) / 2 ^ tC T = c := by rw [Nat.mul_comm, Nat.mul_add_div (Nat.two_pow_pos _), Nat.div_eq_of_lt he, Nat.add_zero]
  rw [h, h2] at h1
  subst h1
  exact ⟨rfl, by omega⟩
theorem shl1_tab : ∀ k : Fin 13, pm_shl 1 ((k : Nat) : Int) = ((2 ^ (k : Nat) : Nat) : Int) := by decide +kernel
theorem c_Areas_size {d mc ms : Nat} {M : pm_M} (lay : Lay M) {T : Tab} (hT : TabOK T) (hM : TbAt M 24 T) :
    pm_E d 1 [(2, ((44 : Nat) : Int))] M mc ms (fun ρ M' => ρ = some (0, (siz T : Int)) ∧ M' = M) := by
  have h1 := hT.1
  have h2 := hT.2.1
  have e : pm_shl 1 ((tR T : Int) + (tC T : Int)) = (siz T : Int) := shl1_tab ⟨tR T + tC T, by omega⟩
  show Wp d 1 0 [(2, ((44 : Nat) : Int))] [] M mc ms _
  refine g_iconst lk_1_0 ?_
  refine g_aload_n lk_1_1 rfl ?_
  refine g_getfield lk_1_2 rfl (lay.on (by decide) rfl) (v := ((24 : Nat) : Int)) (lay.rf rfl) ?_
  refine m_getfield (u := []) (M := M) lk_1_5 rfl (lay.on (by decide) rfl) (v := (tR T : Int)) hM.1 ?_
  refine g_aload_n lk_1_8 rfl ?_
  refine g_getfield lk_1_9 rfl (lay.on (by decide) rfl) (v := ((24 : Nat) : Int)) (lay.rf rfl) ?_
  refine m_getfield (u := []) (M := M) lk_1_12 rfl (lay.on (by decide) rfl) (v := (tC T : Int)) hM.2.1 ?_
  refine g_iadd lk_1_15 ?_
  refine g_ishl lk_1_16 ?_
  refine g_ireturn lk_1_17 (fun h => absurd h (by decide)) ?_
  rw [e]
  exact ⟨rfl, rfl⟩
