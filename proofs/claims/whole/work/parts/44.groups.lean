/-! ===== groups: lines that clash, class and model ===== -/
def cl (T : Tab) (b : Bool) (i j : Nat) : Bool := (List.range (cfA T b)).any (cfP T b i j)
theorem clash_comm (a b : Nat) : clash a b = clash b a := by unfold clash; rw [Bool.and_comm (a != 10), bne_comm]
theorem clash_self (a : Nat) : clash a a = false := by unfold clash; simp
theorem cl_comm (T : Tab) (b : Bool) (i j : Nat) : cl T b i j = cl T b j i := by
  unfold cl
  congr 1
  funext k
  unfold cfP
  split <;> exact clash_comm _ _
theorem cl_self (T : Tab) (b : Bool) (i : Nat) : cl T b i i = false := by
  unfold cl
  rw [List.any_eq_false]
  intro k _
  unfold cfP
  split <;> simp [clash_self]
theorem ffr_any (P : Nat → Bool) : ∀ n i, (ffr P n i = -1 ∧ ∀ k, i ≤ k → k < i + n → P k = false) ∨ (0 ≤ ffr P n i ∧ ffr P n i < i + n ∧ ∃ k, k < i + n ∧ P k = true)
  | 0, i => Or.inl ⟨rfl, fun k h1 h2 => by omega⟩
  | n + 1, i => by
    rw [ffr_s]
    by_cases h : P i = true
    · rw [if_pos h]; exact Or.inr ⟨by omega, by omega, i, by omega, h⟩
    · rw [if_neg h]
      rcases ffr_any P n (i + 1) with ⟨h1, h2⟩ | ⟨h1, h2, k, h3, h4⟩
      · refine Or.inl ⟨h1, fun k k1 k2 => ?_⟩
        by_cases e : k = i
        · subst e; simpa using h
        · exact h2 k (by omega) (by omega)
      · exact Or.inr ⟨h1, by omega, k, by omega, h4⟩
theorem sConf_cl {T : Tab} {b : Bool} {i j : Nat} (hi : i < cfW T b) (hj : j < cfW T b) : (sConf T b (i : Int) (j : Int) = -1 ↔ cl T b i j = false) ∧ -1 ≤ sConf T b (i : Int) (j : Int) ∧ sConf T b (i : Int) (j : Int) ≤ cfA T b := by
  have e : sConf T b (i : Int) (j : Int) = ffr (cfP T b i j) (cfA T b) 0 := if_pos ⟨⟨by omega, by omega⟩, ⟨by omega, by omega⟩⟩
  rw [e]
  unfold cl
  rw [List.any_eq_false]
  rcases ffr_any (cfP T b i j) (cfA T b) 0 with ⟨h1, h2⟩ | ⟨h1, h2, k, h3, h4⟩
  · refine ⟨⟨fun _ k hk => ?_, fun _ => h1⟩, by omega, by omega⟩
    rw [h2 k (by omega) (by have := List.mem_range.mp hk; omega)]; simp
  · refine ⟨⟨fun q => by omega, fun q => absurd h4 (q k (List.mem_range.mpr (by omega)))⟩, by omega, by omega⟩
/-- whether no two of a set clash -/
def tg (T : Tab) (b : Bool) (s : Nat) : Bool := (List.range 6).all (fun i => (List.range 6).all (fun j => !(s.testBit i && (s.testBit j && cl T b i j))))
theorem tg_iff (T : Tab) (b : Bool) {s : Nat} (hs : s < 64) : tg T b s = true ↔ ∀ i j, s.testBit i = true → s.testBit j = true → cl T b i j = false := by
  unfold tg
  simp only [List.all_eq_true, List.mem_range]
  constructor
  · intro h i j hi hj
    have := h i (tb_6 hs hi) j (tb_6 hs hj)
    rw [hi, hj] at this
    simpa using this
  · intro h i _ j _
    cases hi : s.testBit i with
    | false => rfl
    | true =>
      cases hj : s.testBit j with
      | false => rfl
      | true => rw [h i j hi hj]; rfl
theorem tg_one (T : Tab) (b : Bool) (k : Nat) (hk : k < 6) : tg T b (2 ^ k) = true := by
  have hs : 2 ^ k < 64 := Nat.lt_of_lt_of_le (Nat.pow_lt_pow_right (by omega) hk) (by decide)
  rw [tg_iff T b hs]
  intro i j hi hj
  rw [Nat.testBit_two_pow, decide_eq_true_iff] at hi hj
  rw [← hi, ← hj, cl_self]
/-- the columns (rows) that clash with one -/
def cm (T : Tab) (b : Bool) (i n : Nat) : Nat := (List.range n).foldl (fun a j => if cl T b i j then a ||| 2 ^ j else a) 0
theorem cm_s (T : Tab) (b : Bool) (i n : Nat) : cm T b i (n + 1) = if cl T b i n then cm T b i n ||| 2 ^ n else cm T b i n := fo_succ _ _ _
theorem cm_lt (T : Tab) (b : Bool) (i : Nat) : ∀ n, cm T b i n < 2 ^ n
  | 0 => (by decide : 0 < 1)
  | n + 1 => by
    have h := cm_lt T b i n
    have h2 : 2 ^ n < 2 ^ (n + 1) := Nat.pow_lt_pow_right (by omega) (by omega)
    rw [cm_s]
    split
    · exact Nat.or_lt_two_pow (Nat.lt_trans h h2) h2
    · exact Nat.lt_trans h h2
theorem cm_bit (T : Tab) (b : Bool) (i : Nat) : ∀ n j, (cm T b i n).testBit j = (decide (j < n) && cl T b i j)
  | 0, j => by show (0 : Nat).testBit j = _; simp
  | n + 1, j => by
    rw [cm_s]
    by_cases h : cl T b i n = true
    · rw [if_pos h, Nat.testBit_or, cm_bit T b i n j, Nat.testBit_two_pow]
      by_cases hc : n = j
      · subst hc; simp [h]
      · by_cases h2 : j < n
        · simp [h2, show j < n + 1 by omega, hc]
        · simp [h2, show ¬ j < n + 1 by omega, hc]
    · rw [if_neg h, cm_bit T b i n j]
      by_cases hc : n = j
      · subst hc; simp [h]
      · by_cases h2 : j < n
        · simp [h2, show j < n + 1 by omega]
        · simp [h2, show ¬ j < n + 1 by omega]
/-- the class's way to find them -/
theorem tg_low {T : Tab} {b : Bool} {s n : Nat} (hs : s < 64) (h0 : s ≠ 0) (hn : s < 2 ^ n) : tg T b s = true ↔ (cm T b (fstb s) n &&& (s - lw s) = 0 ∧ tg T b (s - lw s) = true) := by
  obtain ⟨-, -, q1, q2, q5, q3, q4, -⟩ := lw_tab ⟨s, hs⟩ h0
  have q1 : 1 ≤ lw s := q1
  have q2 : lw s ≤ s := q2
  have q4 : s.testBit (fstb s) = true := q4
  have l1 : Sb (lw s) s = true := by have := (sub_tab ⟨s, hs⟩ ⟨0, by omega⟩ h0 (Sb_0 _)).2.2.1; exact this
  have hbit : ∀ k, s.testBit k = true → k = fstb s ∨ (s - lw s).testBit k = true := fun k hk => by
    by_cases e : k = fstb s
    · exact Or.inl e
    · refine Or.inr ((dif_bit hs l1).mpr ⟨hk, fun q => e ?_⟩)
      unfold lw at q
      rw [Nat.testBit_two_pow, decide_eq_true_iff] at q
      exact q.symm
  have sub : Sb (s - lw s) s = true := dif_sb hs l1
  rw [tg_iff T b hs, tg_iff T b (by omega), and_0]
  constructor
  · intro h
    refine ⟨fun k k1 k2 => ?_, fun i j hi hj => h i j (Sb_iff.mp sub i hi) (Sb_iff.mp sub j hj)⟩
    rw [cm_bit, h _ k q4 (Sb_iff.mp sub k k2)] at k1
    simp at k1
  · rintro ⟨h1, h2⟩ i j hi hj
    have key : ∀ k, (s - lw s).testBit k = true → cl T b (fstb s) k = false := fun k hk => by
      cases hc : cl T b (fstb s) k with
      | false => rfl
      | true =>
        refine (h1 k ?_ hk).elim
        have : k < n := by
          refine Nat.lt_of_not_le (fun q => ?_)
          have := Sb_iff.mp sub k hk
          rw [Nat.testBit_lt_two_pow (Nat.lt_of_lt_of_le hn (Nat.pow_le_pow_right (by omega) q))] at this
          cases this
        rw [cm_bit, hc]; simp [this]
    rcases hbit i hi with rfl | h3
    · rcases hbit j hj with rfl | h4
      · exact cl_self T b _
      · exact key j h4
    · rcases hbit j hj with rfl | h4
      · rw [cl_comm]; exact key i h3
      · exact h2 i j h3 h4
theorem two_tab : ∀ x : Fin 1024, (pop (x : Nat) < 2 ↔ ∀ i : Fin 10, ∀ j : Fin 10, (x : Nat).testBit (i : Nat) = true → (x : Nat).testBit (j : Nat) = true → (i : Nat) = (j : Nat)) := by decide +kernel
theorem togA_tg {T : Tab} (hT : TabOK T) {s : Nat} (hs : s < 2 ^ tR T) : togA T s (tC T) = tg T false s := by
  have h64 := lt_64_of hT.1.2 hs
  rw [Bool.eq_iff_iff, togA_iff, tg_iff T false h64]
  have hb : ∀ k, s.testBit k = true → k < tR T := fun k hk => Nat.lt_of_not_le (fun q => by
    rw [Nat.testBit_lt_two_pow (Nat.lt_of_lt_of_le hs (Nat.pow_le_pow_right (by omega) q))] at hk; cases hk)
  constructor
  · intro h i j hi hj
    unfold cl
    rw [List.any_eq_false]
    intro k hk
    have hk : k < tC T := List.mem_range.mp hk
    have h1 := (two_tab ⟨vIn T s (2 ^ k), vIn_lt _ _ _⟩).mp (h k hk)
    show ¬ (clash (tX T (6 * i + k)) (tX T (6 * j + k)) = true)
    intro q
    have x1 := hT.2.2.1 (6 * i + k)
    have x2 := hT.2.2.1 (6 * j + k)
    unfold clash at q
    simp only [Bool.and_eq_true, bne_iff_ne, ne_eq] at q
    have b1 := (vIn_bit T s (2 ^ k) (tX T (6 * i + k))).mpr ⟨by omega, i, k, hb i hi, hk, hi, by rw [Nat.testBit_two_pow]; simp, rfl⟩
    have b2 := (vIn_bit T s (2 ^ k) (tX T (6 * j + k))).mpr ⟨by omega, j, k, hb j hj, hk, hj, by rw [Nat.testBit_two_pow]; simp, rfl⟩
    exact q.1 (h1 ⟨tX T (6 * i + k), by omega⟩ ⟨tX T (6 * j + k), by omega⟩ b1 b2)
  · intro h k hk
    refine (two_tab ⟨vIn T s (2 ^ k), vIn_lt _ _ _⟩).mpr (fun a c ha hc => ?_)
    obtain ⟨a1, i, k1, i1, i2, i3, i4, i5⟩ := (vIn_bit T s (2 ^ k) a).mp ha
    obtain ⟨c1, j, k2, j1, j2, j3, j4, j5⟩ := (vIn_bit T s (2 ^ k) c).mp hc
    rw [Nat.testBit_two_pow, decide_eq_true_iff] at i4 j4
    subst i4; subst j4
    have := h i j i3 j3
    unfold cl at this
    rw [List.any_eq_false] at this
    have := this k (List.mem_range.mpr hk)
    refine Classical.byContradiction (fun q => this ?_)
    show clash (tX T (6 * i + k)) (tX T (6 * j + k)) = true
    rw [i5, j5]
    exact clash_of ⟨q, by omega, by omega⟩
theorem togB_tg {T : Tab} (hT : TabOK T) {s : Nat} (hs : s < 2 ^ tC T) : togB T s (tR T) = tg T true s := by
  have h64 := lt_64_of hT.2.1.2 hs
  rw [Bool.eq_iff_iff, togB_iff, tg_iff T true h64]
  have hb : ∀ k, s.testBit k = true → k < tC T := fun k hk => Nat.lt_of_not_le (fun q => by
    rw [Nat.testBit_lt_two_pow (Nat.lt_of_lt_of_le hs (Nat.pow_le_pow_right (by omega) q))] at hk; cases hk)
  constructor
  · intro h i j hi hj
    unfold cl
    rw [List.any_eq_false]
    intro k hk
    have hk : k < tR T := List.mem_range.mp hk
    have h1 := (two_tab ⟨vIn T (2 ^ k) s, vIn_lt _ _ _⟩).mp (h k hk)
    show ¬ (clash (tX T (6 * k + i)) (tX T (6 * k + j)) = true)
    intro q
    have x1 := hT.2.2.1 (6 * k + i)
    have x2 := hT.2.2.1 (6 * k + j)
    unfold clash at q
    simp only [Bool.and_eq_true, bne_iff_ne, ne_eq] at q
    have b1 := (vIn_bit T (2 ^ k) s (tX T (6 * k + i))).mpr ⟨by omega, k, i, hk, hb i hi, by rw [Nat.testBit_two_pow]; simp, hi, rfl⟩
    have b2 := (vIn_bit T (2 ^ k) s (tX T (6 * k + j))).mpr ⟨by omega, k, j, hk, hb j hj, by rw [Nat.testBit_two_pow]; simp, hj, rfl⟩
    exact q.1 (h1 ⟨tX T (6 * k + i), by omega⟩ ⟨tX T (6 * k + j), by omega⟩ b1 b2)
  · intro h k hk
    refine (two_tab ⟨vIn T (2 ^ k) s, vIn_lt _ _ _⟩).mpr (fun a c ha hc => ?_)
    obtain ⟨a1, k1, i, i1, i2, i4, i3, i5⟩ := (vIn_bit T (2 ^ k) s a).mp ha
    obtain ⟨c1, k2, j, j1, j2, j4, j3, j5⟩ := (vIn_bit T (2 ^ k) s c).mp hc
    rw [Nat.testBit_two_pow, decide_eq_true_iff] at i4 j4
    subst i4; subst j4
    have := h i j i3 j3
    unfold cl at this
    rw [List.any_eq_false] at this
    have := this k (List.mem_range.mpr hk)
    refine Classical.byContradiction (fun q => this ?_)
    show clash (tX T (6 * k + i)) (tX T (6 * k + j)) = true
    rw [i5, j5]
    exact clash_of ⟨q, by omega, by omega⟩
def sGroups (T : Tab) (b : Bool) : Int := (GG (tg T b) (2 ^ cfW T b - 1) : Int)
theorem cfW_6 {T : Tab} (hT : TabOK T) (b : Bool) : 1 ≤ cfW T b ∧ cfW T b ≤ 6 ∧ 1 ≤ cfA T b ∧ cfA T b ≤ 6 := by
  have h1 := hT.1
  have h2 := hT.2.1
  cases b
  · exact ⟨h1.1, h1.2, h2.1, h2.2⟩
  · exact ⟨h2.1, h2.2, h1.1, h1.2⟩
theorem c_Lines_leastParts {d mc ms : Nat} {M : pm_M} (lay : Lay M) {tg : Nat → Bool} (ht : ∀ k, k < 6 → tg (2 ^ k) = true) {s : Nat} (hs : s < 64) (h0 : s ≠ 0) (hp : ∀ q, q ≤ s → pm_ct M 42 q = if tg q then 1 else 0) (hf : ∀ q, q < s → pm_ct M 43 q = (GG tg q : Int)) :
    pm_E (d + 1) 34 [(2, ((39 : Nat) : Int)), (0, ((lw s : Nat) : Int)), (0, ((s - lw s : Nat) : Int)), (0, if tg s then 1 else 0)] M mc ms (fun ρ M' => ρ = some (0, (GG tg s : Int)) ∧ M' = M) := by
  obtain ⟨Q, hQ⟩ : ∃ Q : pm_Q, Q = (fun ρ M' => ρ = some (0, (GG tg s : Int)) ∧ M' = M) := ⟨_, rfl⟩
  rw [← hQ]
  obtain ⟨-, -, q1, q2, -⟩ := lw_tab ⟨s, hs⟩ h0
  have q1 : 1 ≤ lw s := q1
  have q2 : lw s ≤ s := q2
  obtain ⟨r, hr⟩ : ∃ r, r = s - lw s := ⟨_, rfl⟩
  obtain ⟨w, hw⟩ : ∃ w, w = lw s := ⟨_, rfl⟩
  have eg := GG_class ht hs h0
  rw [← hr, ← hw]
  have loop : ∀ (part : Nat) (least : Nat), Sb part r = true → ¬ tg s = true → least ≤ 1000000 → (∀ q, Sb q r = true → tg (w + q) = true → part ≤ q → q < r → least ≤ 1 + GG tg (r - q)) → Ach (fun q => Sb q r && tg (w + q)) (fun q => 1 + GG tg (r - q)) r least → Wp (d + 1) 34 13 [(2, ((39 : Nat) : Int)), (0, (w : Int)), (0, (r : Int)), (0, if tg s then 1 else 0), (0, (least : Int)), (0, (part : Int))] [] M mc ms Q := by
    intro part
    induction part using Nat.strongRecOn with
    | ind part ih =>
      intro least hb ht2 j1 j2 j3
      have hle := Sb_le hb
      obtain ⟨nx, hnx⟩ : ∃ nx, nx = ((part - 1) &&& r) := ⟨_, rfl⟩
      have k1 : 0 < part → pm_and ((part : Int) - 1) (r : Int) = (nx : Int) := fun hp0 => by
        rw [show (part : Int) - 1 = ((part - 1 : Nat) : Int) by omega, pm_and_n (by omega) (by omega), hnx]
      have k2 : Sb nx r = true := by rw [hnx]; exact Sb_and _ _
      have k3 : 0 < part → nx < part := fun hp0 => by rw [hnx]; exact sub_dec hp0
      have k0 := Sb_le k2
      have k4 := sub_tab ⟨s, hs⟩ ⟨nx, by omega⟩ h0 (by show Sb nx (s - lw s) = true; rw [← hr]; exact k2)
      obtain ⟨k5, k6, -⟩ := k4
      replace k5 : pm_or (w : Int) (nx : Int) = ((w + nx : Nat) : Int) := by rw [hw]; exact k5
      replace k6 : pm_xor (r : Int) (nx : Int) = ((r - nx : Nat) : Int) := by rw [hr]; exact k6
      obtain ⟨wn, hwn⟩ : ∃ wn, wn = w + nx := ⟨_, rfl⟩
      obtain ⟨rn, hrn⟩ : ∃ rn, rn = r - nx := ⟨_, rfl⟩
      rw [← hwn] at k5
      rw [← hrn] at k6
      have k7 := hp wn (by omega)
      have k8 : pm_ct M 43 rn = (GG tg rn : Int) := hf rn (by omega)
      have k9 := GG_lt ht rn (by omega)
      have st : ∀ l' : Nat, 0 < part → l' ≤ 1000000 → l' ≤ least → (tg wn = true → l' ≤ 1 + GG tg rn) → (l' = least ∨ (tg wn = true ∧ l' = 1 + GG tg rn)) → Wp (d + 1) 34 13 [(2, ((39 : Nat) : Int)), (0, (w : Int)), (0, (r : Int)), (0, if tg s then 1 else 0), (0, (l' : Int)), (0, (nx : Int))] [] M mc ms Q := by
        intro l' hp0 a1 a2 a3 a4
        refine ih nx (k3 hp0) l' k2 ht2 a1 (fun q b1 b2 b3 b4 => ?_) ?_
        · by_cases e : q = nx
          · subst e; rw [← hrn]; exact a3 (by rw [hwn]; exact b2)
          · refine Nat.le_trans a2 (j2 q b1 b2 (Nat.le_of_not_lt (fun c => ?_)) b4)
            have := sub_next part q r hb b1 c
            rw [← hnx] at this
            omega
        · rcases a4 with e | ⟨e1, e2⟩
          · rw [e]; exact j3
          · exact Or.inr ⟨nx, by have := k3 hp0; omega, by rw [Bool.and_eq_true]; exact ⟨k2, by rw [← hwn]; exact e1⟩, by show l' = 1 + GG tg (r - nx); rw [← hrn]; exact e2⟩
      refine g_iload lk_34_13 rfl ?_
      refine g_if (t := 59) lk_34_15 rfl (by first | (unfold pm_inI; omega) | exact pm_and_in _ _ | exact pm_shr_in _ _ | exact pm_or_in _ _ | exact pm_xor_in _ _ | exact pm_shl_in _ _ | exact pm_cmp_in _ _ | exact pm_b8_in _ | (unfold pm_inI; split <;> omega)) (fun h1 => ?_) (fun h1 => ?_)
      · replace h1 : (part : Int) ≤ 0 := h1
        refine g_iload lk_34_59 rfl ?_
        refine g_ireturn lk_34_61 (fun h => absurd h (by decide)) ?_
        rw [hQ]
        refine ⟨?_, rfl⟩
        have e : least = GG tg s := by
          rw [eg, if_neg ht2, ← hr, ← hw]
          refine mn_uniq j1 (fun q c1 c2 => ?_) j3
          rw [Bool.and_eq_true] at c2
          exact j2 q c2.1 c2.2 (by omega) c1
        rw [e]
      · replace h1 : ¬ ((part : Int) ≤ 0) := h1
        refine g_iload lk_34_18 rfl ?_
        refine g_iconst lk_34_20 ?_
        refine g_isub lk_34_21 ?_
        refine g_iload_n lk_34_22 rfl ?_
        refine g_iand lk_34_23 ?_
        refine g_top (z := (pm_and ((part : Int) - 1) (r : Int))) (z' := (nx : Int)) (k1 (by omega)) ?_
        refine g_istore (ls' := [(2, ((39 : Nat) : Int)), (0, (w : Int)), (0, (r : Int)), (0, (if tg s then (1 : Int) else 0)), (0, (least : Int)), (0, (nx : Int))]) lk_34_24 rfl rfl ?_
        refine g_aload_n lk_34_26 rfl ?_
        refine g_getfield lk_34_27 rfl (lay.on (by decide) rfl) (v := ((42 : Nat) : Int)) (lay.rf rfl) ?_
        refine g_iload_n lk_34_30 rfl ?_
        refine g_iload lk_34_31 rfl ?_
        refine g_ior lk_34_33 ?_
        refine g_top (z := (pm_or (w : Int) (nx : Int))) (z' := (wn : Int)) (k5) ?_
        refine m_iaload (u := []) (M := M) lk_34_34 (lay.ay (by decide) rfl) (by omega) (j := wn) (by omega) (v := (if tg wn then (1 : Int) else 0)) k7 ?_
        refine g_if (t := 13) lk_34_35 rfl (by first | (unfold pm_inI; omega) | exact pm_and_in _ _ | exact pm_shr_in _ _ | exact pm_or_in _ _ | exact pm_xor_in _ _ | exact pm_shl_in _ _ | exact pm_cmp_in _ _ | exact pm_b8_in _ | (unfold pm_inI; split <;> omega)) (fun h2 => ?_) (fun h2 => ?_)
        · replace h2 : (if tg wn then (1 : Int) else 0) = 0 := h2
          refine st least (by omega) j1 (Nat.le_refl _) (fun q => ?_) (Or.inl rfl)
          rw [if_pos q] at h2; omega
        · replace h2 : ¬ ((if tg wn then (1 : Int) else 0) = 0) := h2
          refine g_iload lk_34_38 rfl ?_
          refine g_iconst lk_34_40 ?_
          refine g_aload_n lk_34_41 rfl ?_
          refine g_getfield lk_34_42 rfl (lay.on (by decide) rfl) (v := ((43 : Nat) : Int)) (lay.rf rfl) ?_
          refine g_iload_n lk_34_45 rfl ?_
          refine g_iload lk_34_46 rfl ?_
          refine g_ixor lk_34_48 ?_
          refine g_top (z := (pm_xor (r : Int) (nx : Int))) (z' := (rn : Int)) (k6) ?_
          refine m_iaload (u := []) (M := M) lk_34_49 (lay.ay (by decide) rfl) (by omega) (j := rn) (by omega) (v := (GG tg rn : Int)) k8 ?_
          refine g_iadd lk_34_50 ?_
          refine g_mmin lk_34_51 (by first | (unfold pm_inI; omega) | exact pm_and_in _ _ | exact pm_shr_in _ _ | exact pm_or_in _ _ | exact pm_xor_in _ _ | exact pm_shl_in _ _ | exact pm_cmp_in _ _ | exact pm_b8_in _ | (unfold pm_inI; split <;> omega)) (by first | (unfold pm_inI; omega) | exact pm_and_in _ _ | exact pm_shr_in _ _ | exact pm_or_in _ _ | exact pm_xor_in _ _ | exact pm_shl_in _ _ | exact pm_cmp_in _ _ | exact pm_b8_in _ | (unfold pm_inI; split <;> omega)) (Nat.le_of_ble_eq_true rfl) ?_
          refine g_istore (ls' := [(2, ((39 : Nat) : Int)), (0, (w : Int)), (0, (r : Int)), (0, (if tg s then (1 : Int) else 0)), (0, (min (least : Int) (1 + (GG tg rn : Int)))), (0, (nx : Int))]) lk_34_54 rfl rfl ?_
          refine g_goto (t := 13) lk_34_56 rfl ?_
          have q : tg wn = true := by
            cases hc : tg wn with
            | true => rfl
            | false => rw [hc] at h2; exact absurd rfl h2
          have := st (min least (1 + GG tg rn)) (by omega) (by omega) (by omega) (fun _ => by omega) (by rcases Nat.le_total least (1 + GG tg rn) with z | z; exact Or.inl (by omega); exact Or.inr ⟨q, by omega⟩)
          rw [show ((min least (1 + GG tg rn) : Nat) : Int) = min (least : Int) (1 + (GG tg rn : Int)) by omega] at this
          exact this
  show Wp (d + 1) 34 0 [(2, ((39 : Nat) : Int)), (0, (w : Int)), (0, (r : Int)), (0, if tg s then 1 else 0), (9, 0), (9, 0)] [] M mc ms Q
  refine g_iload_n lk_34_0 rfl ?_
  refine g_if (t := 6) lk_34_1 rfl (by first | (unfold pm_inI; omega) | exact pm_and_in _ _ | exact pm_shr_in _ _ | exact pm_or_in _ _ | exact pm_xor_in _ _ | exact pm_shl_in _ _ | exact pm_cmp_in _ _ | exact pm_b8_in _ | (unfold pm_inI; split <;> omega)) (fun h1 => ?_) (fun h1 => ?_)
  · replace h1 : (if tg s then (1 : Int) else 0) = 0 := h1
    refine g_ldc lk_34_6 ?_
    refine g_istore (ls' := [(2, ((39 : Nat) : Int)), (0, (w : Int)), (0, (r : Int)), (0, (if tg s then (1 : Int) else 0)), (0, 1000000), (9, 0)]) lk_34_8 rfl rfl ?_
    refine g_iload_n lk_34_10 rfl ?_
    refine g_istore (ls' := [(2, ((39 : Nat) : Int)), (0, (w : Int)), (0, (r : Int)), (0, (if tg s then (1 : Int) else 0)), (0, 1000000), (0, (r : Int))]) lk_34_11 rfl rfl ?_
    have q : ¬ tg s = true := fun q => by rw [if_pos q] at h1; omega
    exact loop r 1000000 (Sb_refl r) q (by omega) (fun q a1 a2 a3 a4 => by omega) (Or.inl rfl)
  · replace h1 : ¬ ((if tg s then (1 : Int) else 0) = 0) := h1
    refine g_iconst lk_34_4 ?_
    refine g_ireturn lk_34_5 (fun h => absurd h (by decide)) ?_
    have q : tg s = true := by
      cases hc : tg s with
      | true => rfl
      | false => rw [hc] at h1; exact absurd rfl h1
    rw [hQ]
    refine ⟨?_, rfl⟩
    rw [eg, if_pos q]; rfl
set_option maxHeartbeats 4000000 in
theorem c_Lines_findClashes0 {d mc ms : Nat} {M : pm_M} (lay0 : Lay M) {T : Tab} (hT : TabOK T) (hM0 : TbAt M 24 T) :
    pm_E (d + 2) 33 [(2, ((39 : Nat) : Int)), (0, 0), (0, (cfW T false : Int))] M mc ms (fun ρ M' => ρ = none ∧ Lay M' ∧ Fr [41] M M' ∧ ∀ i, i < cfW T false → pm_ct M' 41 i = ((cm T false i (cfW T false) : Nat) : Int)) := by
  obtain ⟨Q, hQ⟩ : ∃ Q : pm_Q, Q = (fun ρ M' => ρ = none ∧ Lay M' ∧ Fr [41] M M' ∧ ∀ i, i < cfW T false → pm_ct M' 41 i = ((cm T false i (cfW T false) : Nat) : Int)) := ⟨_, rfl⟩
  rw [← hQ]
  have ht : (24 : Nat) = 4 ∨ (24 : Nat) = 24 := Or.inr rfl
  have hW := cfW_6 hT false
  obtain ⟨w, hw⟩ : ∃ w, w = cfW T false := ⟨_, rfl⟩
  rw [← hw] at hW hQ ⊢
  have inner : ∀ (n i j : Nat) (N : pm_M), j + n = w → i < w → Lay N → Fr [41] M N → TbAt N 24 T → (∀ k, k < i → pm_ct N 41 k = ((cm T false k w : Nat) : Int)) → pm_ct N 41 i = ((cm T false i j : Nat) : Int) →
      (∀ N' : pm_M, Lay N' → Fr [41] M N' → TbAt N' 24 T → (∀ k, k < i + 1 → pm_ct N' 41 k = ((cm T false k w : Nat) : Int)) → ∀ v4 : pm_V, Wp (d + 2) 33 2 [(2, ((39 : Nat) : Int)), (0, 0), (0, (w : Int)), (0, ((i + 1 : Nat) : Int)), v4] [] N' mc ms Q) →
      Wp (d + 2) 33 17 [(2, ((39 : Nat) : Int)), (0, 0), (0, (w : Int)), (0, (i : Int)), (0, (j : Int))] [] N mc ms Q := by
    intro n
    induction n with
    | zero =>
      intro i j N hj hi lay hF hM hk hij k
      have ej : j = w := by omega
      refine g_iload lk_33_17 rfl ?_
      refine g_iload_n lk_33_19 rfl ?_
      refine g_icmp (t := 61) lk_33_20 rfl (by first | (unfold pm_inI; omega) | exact pm_and_in _ _ | exact pm_shr_in _ _ | exact pm_or_in _ _ | exact pm_xor_in _ _ | exact pm_shl_in _ _ | exact pm_cmp_in _ _ | exact pm_b8_in _ | (unfold pm_inI; split <;> omega)) (by first | (unfold pm_inI; omega) | exact pm_and_in _ _ | exact pm_shr_in _ _ | exact pm_or_in _ _ | exact pm_xor_in _ _ | exact pm_shl_in _ _ | exact pm_cmp_in _ _ | exact pm_b8_in _ | (unfold pm_inI; split <;> omega)) (fun h1 => ?_) (fun h1 => ?_)
      · replace h1 : (w : Int) ≤ (j : Int) := h1
        refine g_iinc (ls' := [(2, ((39 : Nat) : Int)), (0, 0), (0, (w : Int)), (0, ((i : Int) + 1)), (0, (j : Int))]) lk_33_61 rfl rfl rfl ?_
        refine g_goto (t := 2) lk_33_64 rfl ?_
        refine k N lay hF hM (fun q hq => ?_) _
        by_cases e : q = i
        · subst e; rw [hij, ej]
        · exact hk q (by omega)
      · replace h1 : ¬ ((w : Int) ≤ (j : Int)) := h1
        omega
    | succ n ih =>
      intro i j N hj hi lay hF hM hk hij k
      have e := cm_s T false i j
      have a1 : cm T false i j < 64 := lt_64_of (by omega : j ≤ 6) (cm_lt T false i j)
      have a2 : 2 ^ j < 64 := Nat.lt_of_lt_of_le (Nat.pow_lt_pow_right (by omega) (by omega : j < 6)) (by decide)
      obtain ⟨a3, a4, a5⟩ := sConf_cl (T := T) (b := false) (i := i) (j := j) (by omega) (by omega)
      refine g_iload lk_33_17 rfl ?_
      refine g_iload_n lk_33_19 rfl ?_
      refine g_icmp (t := 61) lk_33_20 rfl (by first | (unfold pm_inI; omega) | exact pm_and_in _ _ | exact pm_shr_in _ _ | exact pm_or_in _ _ | exact pm_xor_in _ _ | exact pm_shl_in _ _ | exact pm_cmp_in _ _ | exact pm_b8_in _ | (unfold pm_inI; split <;> omega)) (by first | (unfold pm_inI; omega) | exact pm_and_in _ _ | exact pm_shr_in _ _ | exact pm_or_in _ _ | exact pm_xor_in _ _ | exact pm_shl_in _ _ | exact pm_cmp_in _ _ | exact pm_b8_in _ | (unfold pm_inI; split <;> omega)) (fun h1 => ?_) (fun h1 => ?_)
      · replace h1 : (w : Int) ≤ (j : Int) := h1
        refine g_iinc (ls' := [(2, ((39 : Nat) : Int)), (0, 0), (0, (w : Int)), (0, ((i : Int) + 1)), (0, (j : Int))]) lk_33_61 rfl rfl rfl ?_
        refine g_goto (t := 2) lk_33_64 rfl ?_
        omega
      · replace h1 : ¬ ((w : Int) ≤ (j : Int)) := h1
        refine g_aload_n lk_33_23 rfl ?_
        refine g_getfield lk_33_24 rfl (lay.on (by decide) rfl) (v := ((41 : Nat) : Int)) (lay.rf rfl) ?_
        refine g_iload_n lk_33_27 rfl ?_
        refine g_dup2 lk_33_28 rfl rfl ?_
        refine m_iaload (u := []) (M := N) lk_33_29 (lay.ay (by decide) rfl) (by omega) (j := i) (by omega) (v := ((cm T false i j : Nat) : Int)) hij ?_
        refine g_aload_n lk_33_30 rfl ?_
        refine g_getfield lk_33_31 rfl (lay.on (by decide) rfl) (v := ((24 : Nat) : Int)) (lay.rf rfl) ?_
        refine g_iload_n lk_33_34 rfl ?_
        refine g_iload_n lk_33_35 rfl ?_
        refine g_iload lk_33_36 rfl ?_
        refine g_virtual (p := 24) (Qc := _) lk_33_38 rfl (Nat.le_of_ble_eq_true rfl) rfl rfl (lay.on (by decide) rfl) (Nat.le_of_ble_eq_true rfl) (Nat.le_of_ble_eq_true rfl) (Nat.zero_le _) (Nat.zero_le _) (c_Table_firstClash0 lay ht hT hM (by unfold pm_inI; omega) (by unfold pm_inI; omega)) ?_
        rintro _ N2 ⟨rfl, hN2⟩
        rw [hN2]
        show Wp _ 33 41 [(2, ((39 : Nat) : Int)), (0, 0), (0, (w : Int)), (0, (i : Int)), (0, (j : Int))] [(0, (sConf T false (i : Int) (j : Int))), (0, ((cm T false i j : Nat) : Int)), (0, (i : Int)), (2, ((41 : Nat) : Int))] N _ _ _
        refine g_iconst lk_33_41 ?_
        refine g_icmp (t := 52) lk_33_42 rfl (by first | (unfold pm_inI; omega) | exact pm_and_in _ _ | exact pm_shr_in _ _ | exact pm_or_in _ _ | exact pm_xor_in _ _ | exact pm_shl_in _ _ | exact pm_cmp_in _ _ | exact pm_b8_in _ | (unfold pm_inI; split <;> omega)) (by first | (unfold pm_inI; omega) | exact pm_and_in _ _ | exact pm_shr_in _ _ | exact pm_or_in _ _ | exact pm_xor_in _ _ | exact pm_shl_in _ _ | exact pm_cmp_in _ _ | exact pm_b8_in _ | (unfold pm_inI; split <;> omega)) (fun h3 => ?_) (fun h3 => ?_)
        · replace h3 : (sConf T false (i : Int) (j : Int)) = (-1) := h3
          refine g_iconst lk_33_52 ?_
          refine g_ior lk_33_53 ?_
          have lay4 : Lay (Mu [(41, pm_upd (pm_ct N 41) i (pm_or ((cm T false i j : Nat) : Int) 0))] N) := lay.muA (l := []) (a := 41) (f := pm_upd (pm_ct N 41) i (pm_or ((cm T false i j : Nat) : Int) 0)) rfl rfl
          refine m_iastore (u := []) (u' := [(41, pm_upd (pm_ct N 41) i (pm_or ((cm T false i j : Nat) : Int) 0))]) (M := N) lk_33_54 (lay.ay (by decide) rfl) (by omega) (j := i) (by omega) rfl ?_
          refine g_iinc (ls' := [(2, ((39 : Nat) : Int)), (0, 0), (0, (w : Int)), (0, (i : Int)), (0, ((j : Int) + 1))]) lk_33_55 rfl rfl rfl ?_
          refine g_goto (t := 17) lk_33_58 rfl ?_
          refine ih i (j + 1) _ (by omega) hi lay4 (hF.trans (Fr.mu _ _ rfl)) hM (fun q hq => ?_) ?_ k
          · rw [Mu_ct]
            show pm_upd (pm_ct N 41) i _ q = _
            rw [pm_upd_ne (by omega)]; exact hk q hq
          · rw [Mu_ct]
            show pm_upd (pm_ct N 41) i _ i = _
            rw [pm_upd_eq, e, if_neg (by rw [a3.mp h3]; decide), pm_or_0 (by omega)]
        · replace h3 : ¬ ((sConf T false (i : Int) (j : Int)) = (-1)) := h3
          refine g_iconst lk_33_45 ?_
          refine g_iload lk_33_46 rfl ?_
          refine g_ishl lk_33_48 ?_
          refine g_goto (t := 53) lk_33_49 rfl ?_
          refine g_ior lk_33_53 ?_
          have lay5 : Lay (Mu [(41, pm_upd (pm_ct N 41) i (pm_or ((cm T false i j : Nat) : Int) (pm_shl 1 (j : Int))))] N) := lay.muA (l := []) (a := 41) (f := pm_upd (pm_ct N 41) i (pm_or ((cm T false i j : Nat) : Int) (pm_shl 1 (j : Int)))) rfl rfl
          refine m_iastore (u := []) (u' := [(41, pm_upd (pm_ct N 41) i (pm_or ((cm T false i j : Nat) : Int) (pm_shl 1 (j : Int))))]) (M := N) lk_33_54 (lay.ay (by decide) rfl) (by omega) (j := i) (by omega) rfl ?_
          refine g_iinc (ls' := [(2, ((39 : Nat) : Int)), (0, 0), (0, (w : Int)), (0, (i : Int)), (0, ((j : Int) + 1))]) lk_33_55 rfl rfl rfl ?_
          refine g_goto (t := 17) lk_33_58 rfl ?_
          refine ih i (j + 1) _ (by omega) hi lay5 (hF.trans (Fr.mu _ _ rfl)) hM (fun q hq => ?_) ?_ k
          · rw [Mu_ct]
            show pm_upd (pm_ct N 41) i _ q = _
            rw [pm_upd_ne (by omega)]; exact hk q hq
          · rw [Mu_ct]
            show pm_upd (pm_ct N 41) i _ i = _
            have hc : cl T false i j = true := by
              cases hc : cl T false i j with
              | true => rfl
              | false => exact absurd (a3.mpr hc) h3
            rw [pm_upd_eq, e, if_pos hc, pm_shl_1 (by omega), pm_or_n (by omega) (by omega)]
  have outer : ∀ (n i : Nat) (v4 : pm_V) (N : pm_M), i + n = w → Lay N → Fr [41] M N → TbAt N 24 T → (∀ k, k < i → pm_ct N 41 k = ((cm T false k w : Nat) : Int)) → Wp (d + 2) 33 2 [(2, ((39 : Nat) : Int)), (0, 0), (0, (w : Int)), (0, (i : Int)), v4] [] N mc ms Q := by
    intro n
    induction n with
    | zero =>
      intro i v4 N hi lay hF hM hk
      refine g_iload_n lk_33_2 rfl ?_
      refine g_iload_n lk_33_3 rfl ?_
      refine g_icmp (t := 67) lk_33_4 rfl (by first | (unfold pm_inI; omega) | exact pm_and_in _ _ | exact pm_shr_in _ _ | exact pm_or_in _ _ | exact pm_xor_in _ _ | exact pm_shl_in _ _ | exact pm_cmp_in _ _ | exact pm_b8_in _ | (unfold pm_inI; split <;> omega)) (by first | (unfold pm_inI; omega) | exact pm_and_in _ _ | exact pm_shr_in _ _ | exact pm_or_in _ _ | exact pm_xor_in _ _ | exact pm_shl_in _ _ | exact pm_cmp_in _ _ | exact pm_b8_in _ | (unfold pm_inI; split <;> omega)) (fun h1 => ?_) (fun h1 => ?_)
      · replace h1 : (w : Int) ≤ (i : Int) := h1
        refine g_return lk_33_67 ?_
        rw [hQ]
        exact ⟨rfl, lay, hF, fun k hk' => hk k (by omega)⟩
      · replace h1 : ¬ ((w : Int) ≤ (i : Int)) := h1
        omega
    | succ n ih =>
      intro i v4 N hi lay hF hM hk
      refine g_iload_n lk_33_2 rfl ?_
      refine g_iload_n lk_33_3 rfl ?_
      refine g_icmp (t := 67) lk_33_4 rfl (by first | (unfold pm_inI; omega) | exact pm_and_in _ _ | exact pm_shr_in _ _ | exact pm_or_in _ _ | exact pm_xor_in _ _ | exact pm_shl_in _ _ | exact pm_cmp_in _ _ | exact pm_b8_in _ | (unfold pm_inI; split <;> omega)) (by first | (unfold pm_inI; omega) | exact pm_and_in _ _ | exact pm_shr_in _ _ | exact pm_or_in _ _ | exact pm_xor_in _ _ | exact pm_shl_in _ _ | exact pm_cmp_in _ _ | exact pm_b8_in _ | (unfold pm_inI; split <;> omega)) (fun h1 => ?_) (fun h1 => ?_)
      · replace h1 : (w : Int) ≤ (i : Int) := h1
        refine g_return lk_33_67 ?_
        omega
      · replace h1 : ¬ ((w : Int) ≤ (i : Int)) := h1
        refine g_aload_n lk_33_7 rfl ?_
        refine g_getfield lk_33_8 rfl (lay.on (by decide) rfl) (v := ((41 : Nat) : Int)) (lay.rf rfl) ?_
        refine g_iload_n lk_33_11 rfl ?_
        refine g_iconst lk_33_12 ?_
        have lay2 : Lay (Mu [(41, pm_upd (pm_ct N 41) i 0)] N) := lay.muA (l := []) (a := 41) (f := pm_upd (pm_ct N 41) i 0) rfl rfl
        refine m_iastore (u := []) (u' := [(41, pm_upd (pm_ct N 41) i 0)]) (M := N) lk_33_13 (lay.ay (by decide) rfl) (by omega) (j := i) (by omega) rfl ?_
        refine g_iconst lk_33_14 ?_
        refine g_istore (ls' := [(2, ((39 : Nat) : Int)), (0, 0), (0, (w : Int)), (0, (i : Int)), (0, 0)]) lk_33_15 rfl rfl ?_
        refine inner w i 0 _ (by omega) (by omega) lay2 (hF.trans (Fr.mu _ _ rfl)) hM (fun q hq => ?_) ?_ (fun N' b1 b2 b3 b4 v4 => ih (i + 1) v4 N' (by omega) b1 b2 b3 b4)
        · rw [Mu_ct]
          show pm_upd (pm_ct N 41) i _ q = _
          rw [pm_upd_ne (by omega)]; exact hk q hq
        · rw [Mu_ct]
          show pm_upd (pm_ct N 41) i _ i = _
          rw [pm_upd_eq]; rfl
  show Wp (d + 2) 33 0 [(2, ((39 : Nat) : Int)), (0, 0), (0, (w : Int)), (9, 0), (9, 0)] [] M mc ms Q
  refine g_iconst lk_33_0 ?_
  refine g_istore_n (ls' := [(2, ((39 : Nat) : Int)), (0, 0), (0, (w : Int)), (0, 0), (9, 0)]) lk_33_1 rfl rfl ?_
  exact outer w 0 _ M (by omega) lay0 (Fr.refl _ _) hM0 (fun k hk => absurd hk (Nat.not_lt_zero k))
set_option maxHeartbeats 4000000 in
theorem c_X_groups0 {d mc ms : Nat} {M : pm_M} (lay0 : Lay M) {T : Tab} (hT : TabOK T) (hM0 : TbAt M 24 T) :
    pm_E (d + 4) 134 [(2, ((1 : Nat) : Int)), (0, 0)] M mc ms (fun ρ M' => ρ = some (0, sGroups T false) ∧ Lay M' ∧ Fr [41, 42, 43] M M') := by
  obtain ⟨Q, hQ⟩ : ∃ Q : pm_Q, Q = (fun ρ M' => ρ = some (0, sGroups T false) ∧ Lay M' ∧ Fr [41, 42, 43] M M') := ⟨_, rfl⟩
  rw [← hQ]
  have hW := cfW_6 hT false
  obtain ⟨w, hw⟩ : ∃ w, w = cfW T false := ⟨_, rfl⟩
  rw [← hw] at hW
  have hg1 : ∀ k, k < 6 → tg T false (2 ^ k) = true := tg_one T false
  have w64 : 2 ^ w ≤ 64 := (Nat.pow_le_pow_right (by omega) hW.2.1 : 2 ^ w ≤ 2 ^ 6)
  have w1 : 1 ≤ 2 ^ w := Nat.one_le_two_pow
  have sh : pm_shl 1 (w : Int) = ((2 ^ w : Nat) : Int) := pm_shl_1 (by omega)
  obtain ⟨e, he⟩ : ∃ e, e = 2 ^ w := ⟨_, rfl⟩
  rw [← he] at w64 w1 sh
  have main : pm_E (d + 3) 32 [(2, ((39 : Nat) : Int)), (0, 0)] M mc ms Q := by
    have loop : ∀ (n s : Nat) (v4 v5 v6 : pm_V) (N : pm_M), s + n = e → 1 ≤ s → Lay N → Fr [41, 42, 43] M N → (∀ i, i < w → pm_ct N 41 i = ((cm T false i w : Nat) : Int)) → (∀ q, q < s → pm_ct N 42 q = if tg T false q then 1 else 0) → (∀ q, q < s → pm_ct N 43 q = (GG (tg T false) q : Int)) → Wp (d + 3) 32 44 [(2, ((39 : Nat) : Int)), (0, 0), (0, (w : Int)), (0, (s : Int)), v4, v5, v6] [] N mc ms Q := by
      intro n
      induction n with
      | zero =>
        intro s v4 v5 v6 N hs j1 lay hF hc hp hf
        obtain ⟨e1, he1⟩ : ∃ e1, e1 = e - 1 := ⟨_, rfl⟩
        have k1 : pm_shl 1 (w : Int) - 1 = (e1 : Int) := by rw [sh]; omega
        refine g_iload_n lk_32_44 rfl ?_
        refine g_iconst lk_32_45 ?_
        refine g_iload_n lk_32_46 rfl ?_
        refine g_ishl lk_32_47 ?_
        refine g_top (z := (pm_shl 1 (w : Int))) (z' := (e : Int)) (sh) ?_
        refine g_icmp (t := 134) lk_32_48 rfl (by first | (unfold pm_inI; omega) | exact pm_and_in _ _ | exact pm_shr_in _ _ | exact pm_or_in _ _ | exact pm_xor_in _ _ | exact pm_shl_in _ _ | exact pm_cmp_in _ _ | exact pm_b8_in _ | (unfold pm_inI; split <;> omega)) (by first | (unfold pm_inI; omega) | exact pm_and_in _ _ | exact pm_shr_in _ _ | exact pm_or_in _ _ | exact pm_xor_in _ _ | exact pm_shl_in _ _ | exact pm_cmp_in _ _ | exact pm_b8_in _ | (unfold pm_inI; split <;> omega)) (fun h1 => ?_) (fun h1 => ?_)
        · replace h1 : (e : Int) ≤ (s : Int) := h1
          refine g_aload_n lk_32_134 rfl ?_
          refine g_getfield lk_32_135 rfl (lay.on (by decide) rfl) (v := ((43 : Nat) : Int)) (lay.rf rfl) ?_
          refine g_iconst lk_32_138 ?_
          refine g_iload_n lk_32_139 rfl ?_
          refine g_ishl lk_32_140 ?_
          refine g_iconst lk_32_141 ?_
          refine g_isub lk_32_142 ?_
          refine g_top (z := ((pm_shl 1 (w : Int)) - 1)) (z' := (e1 : Int)) (k1) ?_
          refine m_iaload (u := []) (M := N) lk_32_143 (lay.ay (by decide) rfl) (by omega) (j := e1) (by omega) (v := pm_ct N 43 e1) rfl ?_
          refine g_ireturn lk_32_144 (fun h => absurd h (by decide)) ?_
          rw [hQ]
          refine ⟨?_, lay, hF⟩
          rw [hf e1 (by omega)]
          unfold sGroups
          rw [← hw, he1, he]
        · replace h1 : ¬ ((e : Int) ≤ (s : Int)) := h1
          omega
      | succ n ih =>
        intro s v4 v5 v6 N hs j1 lay hF hc hp hf
        obtain ⟨q0, q5, q1, q2, q6, q3, q4, q7, q8⟩ := lw_tab ⟨s, by omega⟩ (by show s ≠ 0; omega)
        obtain ⟨lo, hlo⟩ : ∃ lo, lo = lw s := ⟨_, rfl⟩
        obtain ⟨r, hr⟩ : ∃ r, r = s - lw s := ⟨_, rfl⟩
        obtain ⟨f, hf0⟩ : ∃ f, f = fstb s := ⟨_, rfl⟩
        have q0 : pm_and (s : Int) (-(s : Int)) = (lo : Int) := by rw [hlo]; exact q0
        have q5 : pm_xor (s : Int) (lo : Int) = (r : Int) := by rw [hlo, hr]; exact q5
        have q1 : 1 ≤ lo := by rw [hlo]; exact q1
        have q2 : lo ≤ s := by rw [hlo]; exact q2
        have q6 : pop lo = 1 := by rw [hlo]; exact q6
        have q3 : f < 6 := by rw [hf0]; exact q3
        have q4 : s.testBit f = true := by rw [hf0]; exact q4
        have q8 : fstb lo = f := by rw [hlo, hf0]; exact q8
        have hr2 : r = s - lo := by rw [hr, hlo]
        have fw : f < w := by
          refine Nat.lt_of_not_le (fun q => ?_)
          rw [Nat.testBit_lt_two_pow (Nat.lt_of_lt_of_le (by omega : s < 2 ^ w) (Nat.pow_le_pow_right (by omega) q))] at q4
          cases q4
        have cw : cm T false f w < 64 := lt_64_of (by omega : w ≤ 6) (cm_lt T false f w)
        have cr : cm T false f w &&& r < 64 := Nat.lt_of_le_of_lt Nat.and_le_left cw
        have hand : pm_and ((cm T false f w : Nat) : Int) (r : Int) = ((cm T false f w &&& r : Nat) : Int) := pm_and_n (by omega) (by omega)
        have tl := tg_low (T := T) (b := false) (s := s) (n := w) (by omega) (by omega) (by omega)
        rw [← hr, ← hf0] at tl
        have p41 := hc f fw
        have p42 := hp r (by omega)
        have nx : ∀ (v4 v5 v6 : pm_V) (f42 f43 : Nat → Int), f42 = pm_upd (pm_ct N 42) s (if tg T false s then 1 else 0) → f43 = pm_upd (pm_ct N 43) s (GG (tg T false) s : Int) → Lay (Mu [(42, f42), (43, f43)] N) → Wp (d + 3) 32 44 [(2, ((39 : Nat) : Int)), (0, 0), (0, (w : Int)), (0, ((s + 1 : Nat) : Int)), v4, v5, v6] [] (Mu [(42, f42), (43, f43)] N) mc ms Q := by
          intro v4 v5 v6 f42 f43 e42 e43 lay'
          refine ih (s + 1) v4 v5 v6 _ (by omega) (by omega) lay' (hF.trans (Fr.mu _ _ rfl)) (fun i hi => ?_) (fun q hq => ?_) (fun q hq => ?_)
          · rw [Mu_ct]; exact hc i hi
          · rw [Mu_ct]
            show f42 q = _
            rw [e42]
            by_cases e : q = s
            · subst e; rw [pm_upd_eq]
            · rw [pm_upd_ne e]; exact hp q (by omega)
          · rw [Mu_ct]
            show f43 q = _
            rw [e43]
            by_cases e : q = s
            · subst e; rw [pm_upd_eq]
            · rw [pm_upd_ne e]; exact hf q (by omega)
        have k108 : ∀ (v6 : pm_V) (f42 : Nat → Int), f42 = pm_upd (pm_ct N 42) s (if tg T false s then 1 else 0) → Lay (Mu [(42, f42)] N) → Wp (d + 3) 32 108 [(2, ((39 : Nat) : Int)), (0, 0), (0, (w : Int)), (0, (s : Int)), (0, (lo : Int)), (0, (r : Int)), v6] [] (Mu [(42, f42)] N) mc ms Q := by
          intro v6 f42 e42 lay'
          obtain ⟨P, hP⟩ : ∃ P, P = Mu [(42, f42)] N := ⟨_, rfl⟩
          rw [← hP] at lay' ⊢
          have P42 : pm_ct P 42 = f42 := by rw [hP, Mu_ct]; rfl
          have P43 : pm_ct P 43 = pm_ct N 43 := by rw [hP, Mu_ct]; rfl
          have p42s : pm_ct P 42 s = if tg T false s then (1 : Int) else 0 := by rw [P42, e42, pm_upd_eq]
          have cc : pm_E (d + 2) 34 [(2, ((39 : Nat) : Int)), (0, (lo : Int)), (0, (r : Int)), (0, if tg T false s then 1 else 0)] P 0 0 (fun ρ M' => ρ = some (0, (GG (tg T false) s : Int)) ∧ M' = P) := by
            rw [hlo, hr]
            refine c_Lines_leastParts lay' hg1 (by omega) (by omega) (fun q hq => ?_) (fun q hq => ?_)
            · rw [P42, e42]
              by_cases e : q = s
              · subst e; rw [pm_upd_eq]
              · rw [pm_upd_ne e]; exact hp q (by omega)
            · rw [P43]; exact hf q hq
          refine g_aload_n lk_32_108 rfl ?_
          refine g_getfield lk_32_109 rfl (lay'.on (by decide) rfl) (v := ((43 : Nat) : Int)) (lay'.rf rfl) ?_
          refine g_iload_n lk_32_112 rfl ?_
          refine g_aload_n lk_32_113 rfl ?_
          refine g_iload lk_32_114 rfl ?_
          refine g_iload lk_32_116 rfl ?_
          refine g_aload_n lk_32_118 rfl ?_
          refine g_getfield lk_32_119 rfl (lay'.on (by decide) rfl) (v := ((42 : Nat) : Int)) (lay'.rf rfl) ?_
          refine g_iload_n lk_32_122 rfl ?_
          refine m_iaload (u := []) (M := P) lk_32_123 (lay'.ay (by decide) rfl) (by omega) (j := s) (by omega) (v := (if tg T false s then (1 : Int) else 0)) p42s ?_
          refine g_virtual (p := 39) (Qc := _) lk_32_124 rfl (Nat.le_of_ble_eq_true rfl) rfl rfl (lay'.on (by decide) rfl) (Nat.le_of_ble_eq_true rfl) (Nat.le_of_ble_eq_true rfl) (Nat.zero_le _) (Nat.zero_le _) (cc) ?_
          rintro _ N1 ⟨rfl, hN1⟩
          rw [hN1]
          show Wp _ 32 127 [(2, ((39 : Nat) : Int)), (0, 0), (0, (w : Int)), (0, (s : Int)), (0, (lo : Int)), (0, (r : Int)), v6] [(0, (GG (tg T false) s : Int)), (0, (s : Int)), (2, ((43 : Nat) : Int))] P _ _ _
          have lay2 : Lay (Mu [(43, pm_upd (pm_ct P 43) s (GG (tg T false) s : Int))] P) := lay'.muA (l := []) (a := 43) (f := pm_upd (pm_ct P 43) s (GG (tg T false) s : Int)) rfl rfl
          refine m_iastore (u := []) (u' := [(43, pm_upd (pm_ct P 43) s (GG (tg T false) s : Int))]) (M := P) lk_32_127 (lay'.ay (by decide) rfl) (by omega) (j := s) (by omega) rfl ?_
          refine g_iinc (ls' := [(2, ((39 : Nat) : Int)), (0, 0), (0, (w : Int)), (0, ((s : Int) + 1)), (0, (lo : Int)), (0, (r : Int)), v6]) lk_32_128 rfl rfl rfl ?_
          refine g_goto (t := 44) lk_32_131 rfl ?_
          have e9 : Mu [(43, pm_upd (pm_ct P 43) s (GG (tg T false) s : Int))] P = Mu [(42, f42), (43, pm_upd (pm_ct N 43) s (GG (tg T false) s : Int))] N := by
            rw [P43, hP]
            refine pm_M_ext (by rw [Mu_1, Mu_1, Mu_1]) (fun a => by rw [Mu_kd, Mu_kd, Mu_kd]) (fun a => by rw [Mu_ln, Mu_ln, Mu_ln]) (fun a => ?_)
            rw [Mu_ct, Mu_ct, Mu_ct]
            show (if 43 = a then _ else if 42 = a then _ else _) = (if 42 = a then _ else if 43 = a then _ else _)
            by_cases h1 : 43 = a
            · rw [if_pos h1, if_neg (by omega), if_pos h1]
            · rw [if_neg h1, if_neg h1]
          have l9 : Lay (Mu [(43, pm_upd (pm_ct P 43) s (GG (tg T false) s : Int))] P) := lay2
          rw [e9] at l9 ⊢
          exact nx _ _ _ _ _ e42 rfl l9
        refine g_iload_n lk_32_44 rfl ?_
        refine g_iconst lk_32_45 ?_
        refine g_iload_n lk_32_46 rfl ?_
        refine g_ishl lk_32_47 ?_
        refine g_top (z := (pm_shl 1 (w : Int))) (z' := (e : Int)) (sh) ?_
        refine g_icmp (t := 134) lk_32_48 rfl (by first | (unfold pm_inI; omega) | exact pm_and_in _ _ | exact pm_shr_in _ _ | exact pm_or_in _ _ | exact pm_xor_in _ _ | exact pm_shl_in _ _ | exact pm_cmp_in _ _ | exact pm_b8_in _ | (unfold pm_inI; split <;> omega)) (by first | (unfold pm_inI; omega) | exact pm_and_in _ _ | exact pm_shr_in _ _ | exact pm_or_in _ _ | exact pm_xor_in _ _ | exact pm_shl_in _ _ | exact pm_cmp_in _ _ | exact pm_b8_in _ | (unfold pm_inI; split <;> omega)) (fun h1 => ?_) (fun h1 => ?_)
        · replace h1 : (e : Int) ≤ (s : Int) := h1
          refine g_aload_n lk_32_134 rfl ?_
          refine g_getfield lk_32_135 rfl (lay.on (by decide) rfl) (v := ((43 : Nat) : Int)) (lay.rf rfl) ?_
          refine g_iconst lk_32_138 ?_
          refine g_iload_n lk_32_139 rfl ?_
          refine g_ishl lk_32_140 ?_
          refine g_iconst lk_32_141 ?_
          refine g_isub lk_32_142 ?_
          refine m_iaload (u := []) (M := N) lk_32_143 (lay.ay (by decide) rfl) (by omega) (j := ((pm_shl 1 (w : Int)) - 1).toNat) (by omega) (v := pm_ct N 43 (((pm_shl 1 (w : Int)) - 1).toNat)) rfl ?_
          refine g_ireturn lk_32_144 (fun h => absurd h (by decide)) ?_
          omega
        · replace h1 : ¬ ((e : Int) ≤ (s : Int)) := h1
          refine g_iload_n lk_32_51 rfl ?_
          refine g_iload_n lk_32_52 rfl ?_
          refine g_ineg lk_32_53 ?_
          refine g_iand lk_32_54 ?_
          refine g_top (z := (pm_and (s : Int) (-(s : Int)))) (z' := (lo : Int)) (q0) ?_
          refine g_istore (ls' := [(2, ((39 : Nat) : Int)), (0, 0), (0, (w : Int)), (0, (s : Int)), (0, (lo : Int)), v5, v6]) lk_32_55 rfl rfl ?_
          refine g_iload_n lk_32_57 rfl ?_
          refine g_iload lk_32_58 rfl ?_
          refine g_ixor lk_32_60 ?_
          refine g_top (z := (pm_xor (s : Int) (lo : Int))) (z' := (r : Int)) (q5) ?_
          refine g_istore (ls' := [(2, ((39 : Nat) : Int)), (0, 0), (0, (w : Int)), (0, (s : Int)), (0, (lo : Int)), (0, (r : Int)), v6]) lk_32_61 rfl rfl ?_
          refine g_aload_n lk_32_63 rfl ?_
          refine g_getfield lk_32_64 rfl (lay.on (by decide) rfl) (v := ((41 : Nat) : Int)) (lay.rf rfl) ?_
          refine g_iload lk_32_67 rfl ?_
          refine g_static (Qc := _) lk_32_69 (by decide) rfl (Nat.le_of_ble_eq_true rfl) rfl rfl (Nat.le_of_ble_eq_true rfl) (Nat.le_of_ble_eq_true rfl) (Nat.zero_le _) (Nat.zero_le _) ((by have := c_X_placeOf (d := d + 1) (mc := 0) (ms := 0) (M := N) (v := lo) (by omega) q6; rw [q8] at this; exact this)) ?_
          rintro _ N2 ⟨rfl, hN2⟩
          rw [hN2]
          show Wp _ 32 72 [(2, ((39 : Nat) : Int)), (0, 0), (0, (w : Int)), (0, (s : Int)), (0, (lo : Int)), (0, (r : Int)), v6] [(0, (f : Int)), (2, ((41 : Nat) : Int))] N _ _ _
          refine m_iaload (u := []) (M := N) lk_32_72 (lay.ay (by decide) rfl) (by omega) (j := f) (by omega) (v := ((cm T false f w : Nat) : Int)) p41 ?_
          refine g_iload lk_32_73 rfl ?_
          refine g_iand lk_32_75 ?_
          refine g_top (z := (pm_and ((cm T false f w : Nat) : Int) (r : Int))) (z' := ((cm T false f w &&& r : Nat) : Int)) (hand) ?_
          refine g_if (t := 83) lk_32_76 rfl (by first | (unfold pm_inI; omega) | exact pm_and_in _ _ | exact pm_shr_in _ _ | exact pm_or_in _ _ | exact pm_xor_in _ _ | exact pm_shl_in _ _ | exact pm_cmp_in _ _ | exact pm_b8_in _ | (unfold pm_inI; split <;> omega)) (fun h3 => ?_) (fun h3 => ?_)
          · replace h3 : ¬ ((cm T false f w &&& r : Nat) : Int) = 0 := h3
            refine g_iconst lk_32_83 ?_
            refine g_istore (ls' := [(2, ((39 : Nat) : Int)), (0, 0), (0, (w : Int)), (0, (s : Int)), (0, (lo : Int)), (0, (r : Int)), (0, 0)]) lk_32_84 rfl rfl ?_
            refine g_aload_n lk_32_86 rfl ?_
            refine g_getfield lk_32_87 rfl (lay.on (by decide) rfl) (v := ((42 : Nat) : Int)) (lay.rf rfl) ?_
            refine g_iload_n lk_32_90 rfl ?_
            refine g_iload lk_32_91 rfl ?_
            refine g_if (t := 106) lk_32_93 rfl (by first | (unfold pm_inI; omega) | exact pm_and_in _ _ | exact pm_shr_in _ _ | exact pm_or_in _ _ | exact pm_xor_in _ _ | exact pm_shl_in _ _ | exact pm_cmp_in _ _ | exact pm_b8_in _ | (unfold pm_inI; split <;> omega)) (fun _ => ?_) (fun h => absurd (show (0 : Int) = (0 : Int) by omega) h)
            refine g_iconst lk_32_106 ?_
            have lay4 : Lay (Mu [(42, pm_upd (pm_ct N 42) s 0)] N) := lay.muA (l := []) (a := 42) (f := pm_upd (pm_ct N 42) s 0) rfl rfl
            refine m_iastore (u := []) (u' := [(42, pm_upd (pm_ct N 42) s 0)]) (M := N) lk_32_107 (lay.ay (by decide) rfl) (by omega) (j := s) (by omega) rfl ?_
            refine k108 _ _ (congrArg (pm_upd (pm_ct N 42) s) ?_) lay4
            rw [if_neg (fun q => h3 (by rw [(tl.mp q).1]; rfl))]
          · replace h3 : ¬ (¬ ((cm T false f w &&& r : Nat) : Int) = 0) := h3
            refine g_iconst lk_32_79 ?_
            refine g_goto (t := 84) lk_32_80 rfl ?_
            refine g_istore (ls' := [(2, ((39 : Nat) : Int)), (0, 0), (0, (w : Int)), (0, (s : Int)), (0, (lo : Int)), (0, (r : Int)), (0, 1)]) lk_32_84 rfl rfl ?_
            refine g_aload_n lk_32_86 rfl ?_
            refine g_getfield lk_32_87 rfl (lay.on (by decide) rfl) (v := ((42 : Nat) : Int)) (lay.rf rfl) ?_
            refine g_iload_n lk_32_90 rfl ?_
            refine g_iload lk_32_91 rfl ?_
            refine g_if (t := 106) lk_32_93 rfl (by first | (unfold pm_inI; omega) | exact pm_and_in _ _ | exact pm_shr_in _ _ | exact pm_or_in _ _ | exact pm_xor_in _ _ | exact pm_shl_in _ _ | exact pm_cmp_in _ _ | exact pm_b8_in _ | (unfold pm_inI; split <;> omega)) (fun h => absurd h (show ¬ ((1 : Int) = (0 : Int)) by omega)) (fun _ => ?_)
            refine g_aload_n lk_32_96 rfl ?_
            refine g_getfield lk_32_97 rfl (lay.on (by decide) rfl) (v := ((42 : Nat) : Int)) (lay.rf rfl) ?_
            refine g_iload lk_32_100 rfl ?_
            refine m_iaload (u := []) (M := N) lk_32_102 (lay.ay (by decide) rfl) (by omega) (j := r) (by omega) (v := (if tg T false r then (1 : Int) else 0)) p42 ?_
            refine g_goto (t := 107) lk_32_103 rfl ?_
            have lay5 : Lay (Mu [(42, pm_upd (pm_ct N 42) s (if tg T false r then (1 : Int) else 0))] N) := lay.muA (l := []) (a := 42) (f := pm_upd (pm_ct N 42) s (if tg T false r then (1 : Int) else 0)) rfl rfl
            refine m_iastore (u := []) (u' := [(42, pm_upd (pm_ct N 42) s (if tg T false r then (1 : Int) else 0))]) (M := N) lk_32_107 (lay.ay (by decide) rfl) (by omega) (j := s) (by omega) rfl ?_
            refine k108 _ _ (congrArg (pm_upd (pm_ct N 42) s) ?_) lay5
            have z : cm T false f w &&& r = 0 := by omega
            by_cases q : tg T false r = true
            · rw [if_pos q, if_pos (tl.mpr ⟨z, q⟩)]
            · rw [if_neg q, if_neg (fun c => q (tl.mp c).2)]
    have after : ∀ N : pm_M, Lay N → Fr [41] M N → (∀ i, i < cfW T false → pm_ct N 41 i = ((cm T false i (cfW T false) : Nat) : Int)) → Wp (d + 3) 32 28 [(2, ((39 : Nat) : Int)), (0, 0), (0, (tR T : Int)), (9, 0), (9, 0), (9, 0), (9, 0)] [] N mc ms Q := by
      intro N lay hF hc
      rw [← hw] at hc
      have ew : tR T = w := by rw [hw]; rfl
      rw [ew]
      refine g_aload_n lk_32_28 rfl ?_
      refine g_getfield lk_32_29 rfl (lay.on (by decide) rfl) (v := ((42 : Nat) : Int)) (lay.rf rfl) ?_
      refine g_iconst lk_32_32 ?_
      refine g_iconst lk_32_33 ?_
      have lay1 : Lay (Mu [(42, pm_upd (pm_ct N 42) 0 1)] N) := lay.muA (l := []) (a := 42) (f := pm_upd (pm_ct N 42) 0 1) rfl rfl
      refine m_iastore (u := []) (u' := [(42, pm_upd (pm_ct N 42) 0 1)]) (M := N) lk_32_34 (lay.ay (by decide) rfl) (by omega) (j := 0) (by omega) rfl ?_
      refine g_aload_n lk_32_35 rfl ?_
      refine g_getfield lk_32_36 rfl (lay1.on (by decide) rfl) (v := ((43 : Nat) : Int)) (lay1.rf rfl) ?_
      refine g_iconst lk_32_39 ?_
      refine g_iconst lk_32_40 ?_
      have lay2 : Lay (Mu [(42, pm_upd (pm_ct N 42) 0 1), (43, pm_upd (pm_ct N 43) 0 0)] N) := lay1.muA (l := [(42, pm_upd (pm_ct N 42) 0 1)]) (a := 43) (f := pm_upd (pm_ct N 43) 0 0) rfl rfl
      refine m_iastore (u := [(42, pm_upd (pm_ct N 42) 0 1)]) (u' := [(42, pm_upd (pm_ct N 42) 0 1), (43, pm_upd (pm_ct N 43) 0 0)]) (M := N) lk_32_41 (lay1.ay (by decide) rfl) (by omega) (j := 0) (by omega) rfl ?_
      refine g_iconst lk_32_42 ?_
      refine g_istore_n (ls' := [(2, ((39 : Nat) : Int)), (0, 0), (0, (w : Int)), (0, 1), (9, 0), (9, 0), (9, 0)]) lk_32_43 rfl rfl ?_
      refine loop (e - 1) 1 _ _ _ _ (by omega) (by omega) lay2 ((hF.mono (fun a q => by rw [List.mem_singleton] at q; rw [q]; decide)).trans (Fr.mu _ _ rfl)) (fun i hi => ?_) (fun q hq => ?_) (fun q hq => ?_)
      · rw [Mu_ct]; exact hc i hi
      · rw [Mu_ct, show q = 0 by omega]
        show pm_upd (pm_ct N 42) 0 1 0 = _
        rw [pm_upd_eq, if_pos ((tg_iff T false (by omega)).mpr (fun i j h => by rw [Nat.zero_testBit] at h; cases h))]
      · rw [Mu_ct, show q = 0 by omega, GG_0]
        show pm_upd (pm_ct N 43) 0 0 0 = _
        rw [pm_upd_eq]; rfl
    show Wp (d + 3) 32 0 [(2, ((39 : Nat) : Int)), (0, 0), (9, 0), (9, 0), (9, 0), (9, 0), (9, 0)] [] M mc ms Q
    refine g_iload_n lk_32_0 rfl ?_
    refine g_if (t := 14) lk_32_1 rfl (by first | (unfold pm_inI; omega) | exact pm_and_in _ _ | exact pm_shr_in _ _ | exact pm_or_in _ _ | exact pm_xor_in _ _ | exact pm_shl_in _ _ | exact pm_cmp_in _ _ | exact pm_b8_in _ | (unfold pm_inI; split <;> omega)) (fun _ => ?_) (fun h => absurd (show (0 : Int) = (0 : Int) by omega) h)
    refine g_aload_n lk_32_14 rfl ?_
    refine g_getfield lk_32_15 rfl (lay0.on (by decide) rfl) (v := ((24 : Nat) : Int)) (lay0.rf rfl) ?_
    refine m_getfield (u := []) (M := M) lk_32_18 rfl (lay0.on (by decide) rfl) (v := (tR T : Int)) hM0.1 ?_
    refine g_istore_n (ls' := [(2, ((39 : Nat) : Int)), (0, 0), (0, (tR T : Int)), (9, 0), (9, 0), (9, 0), (9, 0)]) lk_32_21 rfl rfl ?_
    refine g_aload_n lk_32_22 rfl ?_
    refine g_iload_n lk_32_23 rfl ?_
    refine g_iload_n lk_32_24 rfl ?_
    refine g_virtual (p := 39) (Qc := _) lk_32_25 rfl (Nat.le_of_ble_eq_true rfl) rfl rfl (lay0.on (by decide) rfl) (Nat.le_of_ble_eq_true rfl) (Nat.le_of_ble_eq_true rfl) (Nat.zero_le _) (Nat.zero_le _) (c_Lines_findClashes0 (d := d) (mc := 0) (ms := 0) lay0 hT hM0) ?_
    rintro _ N' ⟨rfl, lay', hF', hc⟩
    exact after N' lay' hF' hc
  show Wp (d + 4) 134 0 [(2, ((1 : Nat) : Int)), (0, 0)] [] M mc ms Q
  refine g_aload_n lk_134_0 rfl ?_
  refine g_getfield lk_134_1 rfl (lay0.on (by decide) rfl) (v := ((39 : Nat) : Int)) (lay0.rf rfl) ?_
  refine g_iload_n lk_134_4 rfl ?_
  refine g_virtual (p := 39) (Qc := Q) lk_134_5 rfl (Nat.le_of_ble_eq_true rfl) rfl rfl (lay0.on (by decide) rfl) (Nat.le_of_ble_eq_true rfl) (Nat.le_of_ble_eq_true rfl) (Nat.le_refl _) (Nat.le_refl _) main ?_
  rintro ρ N' hq
  have hq2 := hq
  rw [hQ] at hq2
  obtain ⟨rfl, -, -⟩ := hq2
  exact g_ireturn lk_134_8 (fun h => absurd h (by decide)) hq
set_option maxHeartbeats 4000000 in
theorem c_Mo_groups0 {d mc ms : Nat} {M : pm_M} (lay0 : Lay M) {T : Tab} (hT : TabOK T) (hM0 : MoAt M T) :
    pm_E (d + 3) 231 [(2, ((116 : Nat) : Int)), (0, 0)] M mc ms (fun ρ M' => ρ = some (0, sGroups T false) ∧ Lay M' ∧ MF [141] [0] M M') := by
  obtain ⟨Q, hQ⟩ : ∃ Q : pm_Q, Q = (fun ρ M' => ρ = some (0, sGroups T false) ∧ Lay M' ∧ MF [141] [0] M M') := ⟨_, rfl⟩
  rw [← hQ]
  have hW := cfW_6 hT false
  obtain ⟨w, hw⟩ : ∃ w, w = cfW T false := ⟨_, rfl⟩
  rw [← hw] at hW
  have ew : tR T = w := by rw [hw]; rfl
  have hg1 : ∀ k, k < 6 → tg T false (2 ^ k) = true := tg_one T false
  have w64 : 2 ^ w ≤ 64 := (Nat.pow_le_pow_right (by omega) hW.2.1 : 2 ^ w ≤ 2 ^ 6)
  have w1 : 1 ≤ 2 ^ w := Nat.one_le_two_pow
  obtain ⟨e, he⟩ : ∃ e, e = 2 ^ w - 1 := ⟨_, rfl⟩
  have inner : ∀ (n s p : Nat) (N : pm_M), p + n = s + 1 → 1 ≤ p → 1 ≤ s → s ≤ e → Lay N → MF [141] [0] M N → (∀ q, q < s → pm_ct N 141 q = (GG (tg T false) q : Int)) → pm_ct N 141 s = (mn (gC (tg T false) s) (fun p => GG (tg T false) (s - p) + 1) p : Int) →
      (∀ N' : pm_M, Lay N' → MF [141] [0] M N' → (∀ q, q < s + 1 → pm_ct N' 141 q = (GG (tg T false) q : Int)) → ∀ v4 : pm_V, Wp (d + 3) 231 30 [(2, ((116 : Nat) : Int)), (0, 0), (0, (e : Int)), (0, ((s + 1 : Nat) : Int)), v4] [] N' mc ms Q) →
      Wp (d + 3) 231 47 [(2, ((116 : Nat) : Int)), (0, 0), (0, (e : Int)), (0, (s : Int)), (0, (p : Int))] [] N mc ms Q := by
    intro n
    induction n with
    | zero =>
      intro s p N hp j1 hs hse lay hF hk hij k
      have eg := GG_s (tg T false) (s := s) (by omega) (by omega)
      refine g_iload lk_231_47 rfl ?_
      refine g_iload_n lk_231_49 rfl ?_
      refine g_icmp (t := 119) lk_231_50 rfl (by first | (unfold pm_inI; omega) | exact pm_and_in _ _ | exact pm_shr_in _ _ | exact pm_or_in _ _ | exact pm_xor_in _ _ | exact pm_shl_in _ _ | exact pm_cmp_in _ _ | exact pm_b8_in _ | (unfold pm_inI; split <;> omega)) (by first | (unfold pm_inI; omega) | exact pm_and_in _ _ | exact pm_shr_in _ _ | exact pm_or_in _ _ | exact pm_xor_in _ _ | exact pm_shl_in _ _ | exact pm_cmp_in _ _ | exact pm_b8_in _ | (unfold pm_inI; split <;> omega)) (fun h1 => ?_) (fun h1 => ?_)
      · replace h1 : (s : Int) < (p : Int) := h1
        refine g_iinc (ls' := [(2, ((116 : Nat) : Int)), (0, 0), (0, (e : Int)), (0, ((s : Int) + 1)), (0, (p : Int))]) lk_231_119 rfl rfl rfl ?_
        refine g_goto (t := 30) lk_231_122 rfl ?_
        refine k N lay hF (fun q hq => ?_) _
        by_cases e : q = s
        · subst e; rw [hij, eg, show p = q + 1 by omega]
        · exact hk q (by omega)
      · replace h1 : ¬ ((s : Int) < (p : Int)) := h1
        omega
    | succ n ih =>
      intro s p N hp j1 hs hse lay hF hk hij k
      have hM : MoAt N T := hM0.mf hF (by decide) (by decide) (by decide) (by decide)
      have es := mn_s (gC (tg T false) s) (fun p => GG (tg T false) (s - p) + 1) p
      have fm := mn_far (gC (tg T false) s) (fun p => GG (tg T false) (s - p) + 1) p
      obtain ⟨m, hm⟩ : ∃ m, m = mn (gC (tg T false) s) (fun p => GG (tg T false) (s - p) + 1) p := ⟨_, rfl⟩
      rw [← hm] at es fm hij
      have n1 := pm_nand (a := p) (b := s) (by omega) (by omega)
      have n2 := pm_nand (a := s) (b := p) (by omega) (by omega)
      obtain ⟨dp, hdp⟩ : ∃ dp, dp = p - (p &&& s) := ⟨_, rfl⟩
      obtain ⟨ds, hds⟩ : ∃ ds, ds = s - (s &&& p) := ⟨_, rfl⟩
      rw [← hdp] at n1
      rw [← hds] at n2
      have hle : p &&& s ≤ p := Nat.and_le_left
      have sb : dp = 0 ↔ Sb p s = true := by rw [Sb_eq]; omega
      have hsp : Sb p s = true → ds = s - p := fun q => by rw [hds, Nat.and_comm, Sb_eq.mp q]
      have dss : dp = 0 → ds < s := fun q => by rw [hsp (sb.mp q)]; omega
      have v1 : dp = 0 → pm_ct N 141 ds = (GG (tg T false) ds : Int) := fun q => hk ds (dss q)
      have gl := fun q => GG_lt hg1 ds (by have := dss q; omega)
      have keepN : ¬ (Sb p s = true ∧ tg T false p = true ∧ GG (tg T false) (s - p) + 1 < m) → Wp (d + 3) 231 47 [(2, ((116 : Nat) : Int)), (0, 0), (0, (e : Int)), (0, (s : Int)), (0, ((p + 1 : Nat) : Int))] [] N mc ms Q := by
        intro q
        refine ih s (p + 1) N (by omega) (by omega) hs hse lay hF hk ?_ k
        rw [hij, es]
        by_cases c : gC (tg T false) s p = true
        · rw [if_pos c]
          obtain ⟨-, c1, c2⟩ := gC_iff.mp c
          show (m : Int) = ((min m (GG (tg T false) (s - p) + 1) : Nat) : Int)
          have : ¬ GG (tg T false) (s - p) + 1 < m := fun z => q ⟨c1, c2, z⟩
          omega
        · rw [if_neg c]
      refine g_iload lk_231_47 rfl ?_
      refine g_iload_n lk_231_49 rfl ?_
      refine g_icmp (t := 119) lk_231_50 rfl (by first | (unfold pm_inI; omega) | (unfold pm_inI; have := gl (by omega); omega) | (unfold pm_inI; split <;> omega)) (by first | (unfold pm_inI; omega) | (unfold pm_inI; have := gl (by omega); omega) | (unfold pm_inI; split <;> omega)) (fun h1 => ?_) (fun h1 => ?_)
      · replace h1 : (s : Int) < (p : Int) := h1
        refine g_iinc (ls' := [(2, ((116 : Nat) : Int)), (0, 0), (0, (e : Int)), (0, ((s : Int) + 1)), (0, (p : Int))]) lk_231_119 rfl rfl rfl ?_
        refine g_goto (t := 30) lk_231_122 rfl ?_
        omega
      · replace h1 : ¬ ((s : Int) < (p : Int)) := h1
        refine g_iload lk_231_53 rfl ?_
        refine g_iload_n lk_231_55 rfl ?_
        refine g_iconst lk_231_56 ?_
        refine g_ixor lk_231_57 ?_
        refine g_iand lk_231_58 ?_
        refine g_top (z := (pm_and (p : Int) (pm_xor (s : Int) (-1)))) (z' := (dp : Int)) (n1) ?_
        refine g_if (t := 113) lk_231_59 rfl (by first | (unfold pm_inI; omega) | (unfold pm_inI; have := gl (by omega); omega) | (unfold pm_inI; split <;> omega)) (fun h2 => ?_) (fun h2 => ?_)
        · replace h2 : ¬ (dp : Int) = 0 := h2
          refine g_iinc (ls' := [(2, ((116 : Nat) : Int)), (0, 0), (0, (e : Int)), (0, (s : Int)), (0, ((p : Int) + 1))]) lk_231_113 rfl rfl rfl ?_
          refine g_goto (t := 47) lk_231_116 rfl ?_
          exact keepN (fun q => h2 (by rw [sb.mpr q.1]; rfl))
        · replace h2 : ¬ (¬ (dp : Int) = 0) := h2
          refine g_aload_n lk_231_62 rfl ?_
          refine g_getfield lk_231_63 rfl (lay.on (by decide) rfl) (v := ((141 : Nat) : Int)) (lay.rf rfl) ?_
          refine g_iload_n lk_231_66 rfl ?_
          refine g_iload lk_231_67 rfl ?_
          refine g_iconst lk_231_69 ?_
          refine g_ixor lk_231_70 ?_
          refine g_iand lk_231_71 ?_
          refine g_top (z := (pm_and (s : Int) (pm_xor (p : Int) (-1)))) (z' := (ds : Int)) (n2) ?_
          refine m_iaload (u := []) (M := N) lk_231_72 (lay.ay (by decide) rfl) (by first | omega | (have := dss (by omega); omega)) (j := ds) (by omega) (v := (GG (tg T false) ds : Int)) (v1 (by omega)) ?_
          refine g_iconst lk_231_73 ?_
          refine g_iadd lk_231_74 ?_
          refine g_aload_n lk_231_75 rfl ?_
          refine g_getfield lk_231_76 rfl (lay.on (by decide) rfl) (v := ((141 : Nat) : Int)) (lay.rf rfl) ?_
          refine g_iload_n lk_231_79 rfl ?_
          refine m_iaload (u := []) (M := N) lk_231_80 (lay.ay (by decide) rfl) (by first | omega | (have := dss (by omega); omega)) (j := s) (by omega) (v := (m : Int)) hij ?_
          refine g_icmp (t := 113) lk_231_81 rfl (by first | (unfold pm_inI; omega) | (unfold pm_inI; have := gl (by omega); omega) | (unfold pm_inI; split <;> omega)) (by first | (unfold pm_inI; omega) | (unfold pm_inI; have := gl (by omega); omega) | (unfold pm_inI; split <;> omega)) (fun h3 => ?_) (fun h3 => ?_)
          · replace h3 : (m : Int) ≤ ((GG (tg T false) ds : Int) + 1) := h3
            refine g_iinc (ls' := [(2, ((116 : Nat) : Int)), (0, 0), (0, (e : Int)), (0, (s : Int)), (0, ((p : Int) + 1))]) lk_231_113 rfl rfl rfl ?_
            refine g_goto (t := 47) lk_231_116 rfl ?_
            refine keepN (fun q => ?_)
            rw [hsp q.1] at h3
            omega
          · replace h3 : ¬ ((m : Int) ≤ ((GG (tg T false) ds : Int) + 1)) := h3
            refine g_aload_n lk_231_84 rfl ?_
            refine g_iload_n lk_231_85 rfl ?_
            refine g_iload lk_231_86 rfl ?_
            refine g_virtual (p := 116) (Qc := _) lk_231_88 rfl (Nat.le_of_ble_eq_true rfl) rfl rfl (lay.on (by decide) rfl) (Nat.le_of_ble_eq_true rfl) (Nat.le_of_ble_eq_true rfl) (Nat.zero_le _) (Nat.zero_le _) (c_Mo_goTogetherA lay hT hM (by omega)) ?_
            rintro _ N4 ⟨rfl, hN4⟩
            rw [hN4]
            show Wp _ 231 91 [(2, ((116 : Nat) : Int)), (0, 0), (0, (e : Int)), (0, (s : Int)), (0, (p : Int))] [(0, (if togA T p (tC T) = true then (1 : Int) else 0))] N _ _ _
            refine g_if (t := 113) lk_231_91 rfl (by first | (unfold pm_inI; omega) | (unfold pm_inI; have := gl (by omega); omega) | (unfold pm_inI; split <;> omega)) (fun h5 => ?_) (fun h5 => ?_)
            · replace h5 : (if togA T p (tC T) = true then (1 : Int) else 0) = 0 := h5
              refine g_iinc (ls' := [(2, ((116 : Nat) : Int)), (0, 0), (0, (e : Int)), (0, (s : Int)), (0, ((p : Int) + 1))]) lk_231_113 rfl rfl rfl ?_
              refine g_goto (t := 47) lk_231_116 rfl ?_
              refine keepN (fun q => ?_)
              rw [togA_tg hT (by rw [ew]; omega), if_pos q.2.1] at h5
              omega
            · replace h5 : ¬ ((if togA T p (tC T) = true then (1 : Int) else 0) = 0) := h5
              refine g_aload_n lk_231_94 rfl ?_
              refine g_getfield lk_231_95 rfl (lay.on (by decide) rfl) (v := ((141 : Nat) : Int)) (lay.rf rfl) ?_
              refine g_iload_n lk_231_98 rfl ?_
              refine g_aload_n lk_231_99 rfl ?_
              refine g_getfield lk_231_100 rfl (lay.on (by decide) rfl) (v := ((141 : Nat) : Int)) (lay.rf rfl) ?_
              refine g_iload_n lk_231_103 rfl ?_
              refine g_iload lk_231_104 rfl ?_
              refine g_iconst lk_231_106 ?_
              refine g_ixor lk_231_107 ?_
              refine g_iand lk_231_108 ?_
              refine g_top (z := (pm_and (s : Int) (pm_xor (p : Int) (-1)))) (z' := (ds : Int)) (n2) ?_
              refine m_iaload (u := []) (M := N) lk_231_109 (lay.ay (by decide) rfl) (by first | omega | (have := dss (by omega); omega)) (j := ds) (by omega) (v := (GG (tg T false) ds : Int)) (v1 (by omega)) ?_
              refine g_iconst lk_231_110 ?_
              refine g_iadd lk_231_111 ?_
              have lay6 : Lay (Mu [(141, pm_upd (pm_ct N 141) s ((GG (tg T false) ds : Int) + 1))] N) := lay.muA (l := []) (a := 141) (f := pm_upd (pm_ct N 141) s ((GG (tg T false) ds : Int) + 1)) rfl rfl
              refine m_iastore (u := []) (u' := [(141, pm_upd (pm_ct N 141) s ((GG (tg T false) ds : Int) + 1))]) (M := N) lk_231_112 (lay.ay (by decide) rfl) (by first | omega | (have := dss (by omega); omega)) (j := s) (by omega) rfl ?_
              refine g_iinc (ls' := [(2, ((116 : Nat) : Int)), (0, 0), (0, (e : Int)), (0, (s : Int)), (0, ((p : Int) + 1))]) lk_231_113 rfl rfl rfl ?_
              refine g_goto (t := 47) lk_231_116 rfl ?_
              have z : Sb p s = true := sb.mp (by omega)
              have tq : tg T false p = true := by
                rw [togA_tg hT (by rw [ew]; omega)] at h5
                cases hc : tg T false p with
                | true => rfl
                | false => rw [hc] at h5; exact absurd rfl h5
              refine ih s (p + 1) _ (by omega) (by omega) hs hse lay6 (hF.trans (MF.mu _ _ rfl (fun k _ => rfl))) (fun q hq => ?_) ?_ k
              · rw [Mu_ct]
                show pm_upd (pm_ct N 141) s _ q = _
                rw [pm_upd_ne (by omega)]; exact hk q hq
              · rw [Mu_ct]
                show pm_upd (pm_ct N 141) s _ s = _
                rw [pm_upd_eq, es, if_pos (gC_iff.mpr ⟨by omega, z, tq⟩)]
                show _ = ((min m (GG (tg T false) (s - p) + 1) : Nat) : Int)
                rw [← hsp z]
                omega
  have outer : ∀ (n s : Nat) (v4 : pm_V) (N : pm_M), s + n = e + 1 → 1 ≤ s → Lay N → MF [141] [0] M N → (∀ q, q < s → pm_ct N 141 q = (GG (tg T false) q : Int)) → Wp (d + 3) 231 30 [(2, ((116 : Nat) : Int)), (0, 0), (0, (e : Int)), (0, (s : Int)), v4] [] N mc ms Q := by
    intro n
    induction n with
    | zero =>
      intro s v4 N hs j1 lay hF hk
      refine g_iload_n lk_231_30 rfl ?_
      refine g_iload_n lk_231_31 rfl ?_
      refine g_icmp (t := 125) lk_231_32 rfl (by first | (unfold pm_inI; omega) | exact pm_and_in _ _ | exact pm_shr_in _ _ | exact pm_or_in _ _ | exact pm_xor_in _ _ | exact pm_shl_in _ _ | exact pm_cmp_in _ _ | exact pm_b8_in _ | (unfold pm_inI; split <;> omega)) (by first | (unfold pm_inI; omega) | exact pm_and_in _ _ | exact pm_shr_in _ _ | exact pm_or_in _ _ | exact pm_xor_in _ _ | exact pm_shl_in _ _ | exact pm_cmp_in _ _ | exact pm_b8_in _ | (unfold pm_inI; split <;> omega)) (fun h1 => ?_) (fun h1 => ?_)
      · replace h1 : (e : Int) < (s : Int) := h1
        refine g_aload_n lk_231_125 rfl ?_
        refine g_getfield lk_231_126 rfl (lay.on (by decide) rfl) (v := ((141 : Nat) : Int)) (lay.rf rfl) ?_
        refine g_iload_n lk_231_129 rfl ?_
        refine m_iaload (u := []) (M := N) lk_231_130 (lay.ay (by decide) rfl) (by omega) (j := e) (by omega) (v := pm_ct N 141 e) rfl ?_
        refine g_ireturn lk_231_131 (fun h => absurd h (by decide)) ?_
        rw [hQ]
        refine ⟨?_, lay, hF⟩
        rw [hk e (by omega)]
        unfold sGroups
        rw [← hw, he]
      · replace h1 : ¬ ((e : Int) < (s : Int)) := h1
        omega
    | succ n ih =>
      intro s v4 N hs j1 lay hF hk
      refine g_iload_n lk_231_30 rfl ?_
      refine g_iload_n lk_231_31 rfl ?_
      refine g_icmp (t := 125) lk_231_32 rfl (by first | (unfold pm_inI; omega) | exact pm_and_in _ _ | exact pm_shr_in _ _ | exact pm_or_in _ _ | exact pm_xor_in _ _ | exact pm_shl_in _ _ | exact pm_cmp_in _ _ | exact pm_b8_in _ | (unfold pm_inI; split <;> omega)) (by first | (unfold pm_inI; omega) | exact pm_and_in _ _ | exact pm_shr_in _ _ | exact pm_or_in _ _ | exact pm_xor_in _ _ | exact pm_shl_in _ _ | exact pm_cmp_in _ _ | exact pm_b8_in _ | (unfold pm_inI; split <;> omega)) (fun h1 => ?_) (fun h1 => ?_)
      · replace h1 : (e : Int) < (s : Int) := h1
        refine g_aload_n lk_231_125 rfl ?_
        refine g_getfield lk_231_126 rfl (lay.on (by decide) rfl) (v := ((141 : Nat) : Int)) (lay.rf rfl) ?_
        refine g_iload_n lk_231_129 rfl ?_
        refine m_iaload (u := []) (M := N) lk_231_130 (lay.ay (by decide) rfl) (by omega) (j := e) (by omega) (v := pm_ct N 141 e) rfl ?_
        refine g_ireturn lk_231_131 (fun h => absurd h (by decide)) ?_
        omega
      · replace h1 : ¬ ((e : Int) < (s : Int)) := h1
        refine g_aload_n lk_231_35 rfl ?_
        refine g_getfield lk_231_36 rfl (lay.on (by decide) rfl) (v := ((141 : Nat) : Int)) (lay.rf rfl) ?_
        refine g_iload_n lk_231_39 rfl ?_
        refine g_ldc_w lk_231_40 ?_
        have lay2 : Lay (Mu [(141, pm_upd (pm_ct N 141) s 1000000)] N) := lay.muA (l := []) (a := 141) (f := pm_upd (pm_ct N 141) s 1000000) rfl rfl
        refine m_iastore (u := []) (u' := [(141, pm_upd (pm_ct N 141) s 1000000)]) (M := N) lk_231_43 (lay.ay (by decide) rfl) (by omega) (j := s) (by omega) rfl ?_
        refine g_iconst lk_231_44 ?_
        refine g_istore (ls' := [(2, ((116 : Nat) : Int)), (0, 0), (0, (e : Int)), (0, (s : Int)), (0, 1)]) lk_231_45 rfl rfl ?_
        refine inner s s 1 _ (by omega) (by omega) j1 (by omega) lay2 (hF.trans (MF.mu _ _ rfl (fun k _ => rfl))) (fun q hq => ?_) ?_ (fun N' b1 b2 b3 v4 => ih (s + 1) v4 N' (by omega) (by omega) b1 b2 b3)
        · rw [Mu_ct]
          show pm_upd (pm_ct N 141) s _ q = _
          rw [pm_upd_ne (by omega)]; exact hk q hq
        · rw [Mu_ct]
          show pm_upd (pm_ct N 141) s _ s = _
          rw [pm_upd_eq, mn_s]
          rfl
  show Wp (d + 3) 231 0 [(2, ((116 : Nat) : Int)), (0, 0), (9, 0), (9, 0), (9, 0)] [] M mc ms Q
  refine g_aload_n lk_231_0 rfl ?_
  refine g_iconst lk_231_1 ?_
  have lay1 : Lay (Mu [(116, pm_upd (pm_ct M 116) 0 0)] M) := lay0.muF (l := []) (a := 116) (k := 0) (z := 0) rfl rfl
  refine m_putfield (u := []) (u' := [(116, pm_upd (pm_ct M 116) 0 0)]) (M := M) lk_231_2 rfl (lay0.on (by decide) rfl) (fun h => absurd h (by decide)) rfl ?_
  refine g_iload_n lk_231_5 rfl ?_
  refine g_if (t := 16) lk_231_6 rfl (by first | (unfold pm_inI; omega) | exact pm_and_in _ _ | exact pm_shr_in _ _ | exact pm_or_in _ _ | exact pm_xor_in _ _ | exact pm_shl_in _ _ | exact pm_cmp_in _ _ | exact pm_b8_in _ | (unfold pm_inI; split <;> omega)) (fun _ => ?_) (fun h => absurd (show (0 : Int) = (0 : Int) by omega) h)
  refine g_aload_n lk_231_16 rfl ?_
  refine g_virtual (p := 116) (Qc := _) lk_231_17 rfl (Nat.le_of_ble_eq_true rfl) rfl rfl (lay1.on (by decide) rfl) (Nat.le_of_ble_eq_true rfl) (Nat.le_of_ble_eq_true rfl) (Nat.zero_le _) (Nat.zero_le _) (c_Mo_allRows lay1 hT (show MoAt (Mu [(116, pm_upd (pm_ct M 116) 0 0)] M) T from hM0)) ?_
  rintro _ N2 ⟨rfl, hN2⟩
  rw [hN2]
  show Wp _ 231 20 [(2, ((116 : Nat) : Int)), (0, 0), (9, 0), (9, 0), (9, 0)] [(0, ((2 ^ tR T - 1 : Nat) : Int))] (Mu [(116, pm_upd (pm_ct M 116) 0 0)] M) _ _ _
  refine g_top (z := ((2 ^ tR T - 1 : Nat) : Int)) (z' := (e : Int)) ((by rw [ew, ← he])) ?_
  refine g_istore_n (ls' := [(2, ((116 : Nat) : Int)), (0, 0), (0, (e : Int)), (9, 0), (9, 0)]) lk_231_20 rfl rfl ?_
  refine g_aload_n lk_231_21 rfl ?_
  refine g_getfield lk_231_22 rfl (lay1.on (by decide) rfl) (v := ((141 : Nat) : Int)) (lay1.rf rfl) ?_
  refine g_iconst lk_231_25 ?_
  refine g_iconst lk_231_26 ?_
  have lay3 : Lay (Mu [(116, pm_upd (pm_ct M 116) 0 0), (141, pm_upd (pm_ct M 141) 0 0)] M) := lay1.muA (l := [(116, pm_upd (pm_ct M 116) 0 0)]) (a := 141) (f := pm_upd (pm_ct M 141) 0 0) rfl rfl
  refine m_iastore (u := [(116, pm_upd (pm_ct M 116) 0 0)]) (u' := [(116, pm_upd (pm_ct M 116) 0 0), (141, pm_upd (pm_ct M 141) 0 0)]) (M := M) lk_231_27 (lay1.ay (by decide) rfl) (by omega) (j := 0) (by omega) rfl ?_
  refine g_iconst lk_231_28 ?_
  refine g_istore_n (ls' := [(2, ((116 : Nat) : Int)), (0, 0), (0, (e : Int)), (0, 1), (9, 0)]) lk_231_29 rfl rfl ?_
  refine outer e 1 _ _ (by omega) (by omega) lay3 (MF.mu _ _ rfl (fun k hk => upd_ne (by intro q; rw [q] at hk; exact hk (by decide)))) (fun q hq => ?_)
  rw [Mu_ct, show q = 0 by omega, GG_0]
  show pm_upd (pm_ct M 141) 0 0 0 = _
  rw [pm_upd_eq]; rfl
set_option maxHeartbeats 4000000 in
theorem c_Lines_findClashes1 {d mc ms : Nat} {M : pm_M} (lay0 : Lay M) {T : Tab} (hT : TabOK T) (hM0 : TbAt M 24 T) :
    pm_E (d + 2) 33 [(2, ((39 : Nat) : Int)), (0, 1), (0, (cfW T true : Int))] M mc ms (fun ρ M' => ρ = none ∧ Lay M' ∧ Fr [41] M M' ∧ ∀ i, i < cfW T true → pm_ct M' 41 i = ((cm T true i (cfW T true) : Nat) : Int)) := by
  obtain ⟨Q, hQ⟩ : ∃ Q : pm_Q, Q = (fun ρ M' => ρ = none ∧ Lay M' ∧ Fr [41] M M' ∧ ∀ i, i < cfW T true → pm_ct M' 41 i = ((cm T true i (cfW T true) : Nat) : Int)) := ⟨_, rfl⟩
  rw [← hQ]
  have ht : (24 : Nat) = 4 ∨ (24 : Nat) = 24 := Or.inr rfl
  have hW := cfW_6 hT true
  obtain ⟨w, hw⟩ : ∃ w, w = cfW T true := ⟨_, rfl⟩
  rw [← hw] at hW hQ ⊢
  have inner : ∀ (n i j : Nat) (N : pm_M), j + n = w → i < w → Lay N → Fr [41] M N → TbAt N 24 T → (∀ k, k < i → pm_ct N 41 k = ((cm T true k w : Nat) : Int)) → pm_ct N 41 i = ((cm T true i j : Nat) : Int) →
      (∀ N' : pm_M, Lay N' → Fr [41] M N' → TbAt N' 24 T → (∀ k, k < i + 1 → pm_ct N' 41 k = ((cm T true k w : Nat) : Int)) → ∀ v4 : pm_V, Wp (d + 2) 33 2 [(2, ((39 : Nat) : Int)), (0, 1), (0, (w : Int)), (0, ((i + 1 : Nat) : Int)), v4] [] N' mc ms Q) →
      Wp (d + 2) 33 17 [(2, ((39 : Nat) : Int)), (0, 1), (0, (w : Int)), (0, (i : Int)), (0, (j : Int))] [] N mc ms Q := by
    intro n
    induction n with
    | zero =>
      intro i j N hj hi lay hF hM hk hij k
      have ej : j = w := by omega
      refine g_iload lk_33_17 rfl ?_
      refine g_iload_n lk_33_19 rfl ?_
      refine g_icmp (t := 61) lk_33_20 rfl (by first | (unfold pm_inI; omega) | exact pm_and_in _ _ | exact pm_shr_in _ _ | exact pm_or_in _ _ | exact pm_xor_in _ _ | exact pm_shl_in _ _ | exact pm_cmp_in _ _ | exact pm_b8_in _ | (unfold pm_inI; split <;> omega)) (by first | (unfold pm_inI; omega) | exact pm_and_in _ _ | exact pm_shr_in _ _ | exact pm_or_in _ _ | exact pm_xor_in _ _ | exact pm_shl_in _ _ | exact pm_cmp_in _ _ | exact pm_b8_in _ | (unfold pm_inI; split <;> omega)) (fun h1 => ?_) (fun h1 => ?_)
      · replace h1 : (w : Int) ≤ (j : Int) := h1
        refine g_iinc (ls' := [(2, ((39 : Nat) : Int)), (0, 1), (0, (w : Int)), (0, ((i : Int) + 1)), (0, (j : Int))]) lk_33_61 rfl rfl rfl ?_
        refine g_goto (t := 2) lk_33_64 rfl ?_
        refine k N lay hF hM (fun q hq => ?_) _
        by_cases e : q = i
        · subst e; rw [hij, ej]
        · exact hk q (by omega)
      · replace h1 : ¬ ((w : Int) ≤ (j : Int)) := h1
        omega
    | succ n ih =>
      intro i j N hj hi lay hF hM hk hij k
      have e := cm_s T true i j
      have a1 : cm T true i j < 64 := lt_64_of (by omega : j ≤ 6) (cm_lt T true i j)
      have a2 : 2 ^ j < 64 := Nat.lt_of_lt_of_le (Nat.pow_lt_pow_right (by omega) (by omega : j < 6)) (by decide)
      obtain ⟨a3, a4, a5⟩ := sConf_cl (T := T) (b := true) (i := i) (j := j) (by omega) (by omega)
      refine g_iload lk_33_17 rfl ?_
      refine g_iload_n lk_33_19 rfl ?_
      refine g_icmp (t := 61) lk_33_20 rfl (by first | (unfold pm_inI; omega) | exact pm_and_in _ _ | exact pm_shr_in _ _ | exact pm_or_in _ _ | exact pm_xor_in _ _ | exact pm_shl_in _ _ | exact pm_cmp_in _ _ | exact pm_b8_in _ | (unfold pm_inI; split <;> omega)) (by first | (unfold pm_inI; omega) | exact pm_and_in _ _ | exact pm_shr_in _ _ | exact pm_or_in _ _ | exact pm_xor_in _ _ | exact pm_shl_in _ _ | exact pm_cmp_in _ _ | exact pm_b8_in _ | (unfold pm_inI; split <;> omega)) (fun h1 => ?_) (fun h1 => ?_)
      · replace h1 : (w : Int) ≤ (j : Int) := h1
        refine g_iinc (ls' := [(2, ((39 : Nat) : Int)), (0, 1), (0, (w : Int)), (0, ((i : Int) + 1)), (0, (j : Int))]) lk_33_61 rfl rfl rfl ?_
        refine g_goto (t := 2) lk_33_64 rfl ?_
        omega
      · replace h1 : ¬ ((w : Int) ≤ (j : Int)) := h1
        refine g_aload_n lk_33_23 rfl ?_
        refine g_getfield lk_33_24 rfl (lay.on (by decide) rfl) (v := ((41 : Nat) : Int)) (lay.rf rfl) ?_
        refine g_iload_n lk_33_27 rfl ?_
        refine g_dup2 lk_33_28 rfl rfl ?_
        refine m_iaload (u := []) (M := N) lk_33_29 (lay.ay (by decide) rfl) (by omega) (j := i) (by omega) (v := ((cm T true i j : Nat) : Int)) hij ?_
        refine g_aload_n lk_33_30 rfl ?_
        refine g_getfield lk_33_31 rfl (lay.on (by decide) rfl) (v := ((24 : Nat) : Int)) (lay.rf rfl) ?_
        refine g_iload_n lk_33_34 rfl ?_
        refine g_iload_n lk_33_35 rfl ?_
        refine g_iload lk_33_36 rfl ?_
        refine g_virtual (p := 24) (Qc := _) lk_33_38 rfl (Nat.le_of_ble_eq_true rfl) rfl rfl (lay.on (by decide) rfl) (Nat.le_of_ble_eq_true rfl) (Nat.le_of_ble_eq_true rfl) (Nat.zero_le _) (Nat.zero_le _) (c_Table_firstClash1 lay ht hT hM (by unfold pm_inI; omega) (by unfold pm_inI; omega)) ?_
        rintro _ N2 ⟨rfl, hN2⟩
        rw [hN2]
        show Wp _ 33 41 [(2, ((39 : Nat) : Int)), (0, 1), (0, (w : Int)), (0, (i : Int)), (0, (j : Int))] [(0, (sConf T true (i : Int) (j : Int))), (0, ((cm T true i j : Nat) : Int)), (0, (i : Int)), (2, ((41 : Nat) : Int))] N _ _ _
        refine g_iconst lk_33_41 ?_
        refine g_icmp (t := 52) lk_33_42 rfl (by first | (unfold pm_inI; omega) | exact pm_and_in _ _ | exact pm_shr_in _ _ | exact pm_or_in _ _ | exact pm_xor_in _ _ | exact pm_shl_in _ _ | exact pm_cmp_in _ _ | exact pm_b8_in _ | (unfold pm_inI; split <;> omega)) (by first | (unfold pm_inI; omega) | exact pm_and_in _ _ | exact pm_shr_in _ _ | exact pm_or_in _ _ | exact pm_xor_in _ _ | exact pm_shl_in _ _ | exact pm_cmp_in _ _ | exact pm_b8_in _ | (unfold pm_inI; split <;> omega)) (fun h3 => ?_) (fun h3 => ?_)
        · replace h3 : (sConf T true (i : Int) (j : Int)) = (-1) := h3
          refine g_iconst lk_33_52 ?_
          refine g_ior lk_33_53 ?_
          have lay4 : Lay (Mu [(41, pm_upd (pm_ct N 41) i (pm_or ((cm T true i j : Nat) : Int) 0))] N) := lay.muA (l := []) (a := 41) (f := pm_upd (pm_ct N 41) i (pm_or ((cm T true i j : Nat) : Int) 0)) rfl rfl
          refine m_iastore (u := []) (u' := [(41, pm_upd (pm_ct N 41) i (pm_or ((cm T true i j : Nat) : Int) 0))]) (M := N) lk_33_54 (lay.ay (by decide) rfl) (by omega) (j := i) (by omega) rfl ?_
          refine g_iinc (ls' := [(2, ((39 : Nat) : Int)), (0, 1), (0, (w : Int)), (0, (i : Int)), (0, ((j : Int) + 1))]) lk_33_55 rfl rfl rfl ?_
          refine g_goto (t := 17) lk_33_58 rfl ?_
          refine ih i (j + 1) _ (by omega) hi lay4 (hF.trans (Fr.mu _ _ rfl)) hM (fun q hq => ?_) ?_ k
          · rw [Mu_ct]
            show pm_upd (pm_ct N 41) i _ q = _
            rw [pm_upd_ne (by omega)]; exact hk q hq
          · rw [Mu_ct]
            show pm_upd (pm_ct N 41) i _ i = _
            rw [pm_upd_eq, e, if_neg (by rw [a3.mp h3]; decide), pm_or_0 (by omega)]
        · replace h3 : ¬ ((sConf T true (i : Int) (j : Int)) = (-1)) := h3
          refine g_iconst lk_33_45 ?_
          refine g_iload lk_33_46 rfl ?_
          refine g_ishl lk_33_48 ?_
          refine g_goto (t := 53) lk_33_49 rfl ?_
          refine g_ior lk_33_53 ?_
          have lay5 : Lay (Mu [(41, pm_upd (pm_ct N 41) i (pm_or ((cm T true i j : Nat) : Int) (pm_shl 1 (j : Int))))] N) := lay.muA (l := []) (a := 41) (f := pm_upd (pm_ct N 41) i (pm_or ((cm T true i j : Nat) : Int) (pm_shl 1 (j : Int)))) rfl rfl
          refine m_iastore (u := []) (u' := [(41, pm_upd (pm_ct N 41) i (pm_or ((cm T true i j : Nat) : Int) (pm_shl 1 (j : Int))))]) (M := N) lk_33_54 (lay.ay (by decide) rfl) (by omega) (j := i) (by omega) rfl ?_
          refine g_iinc (ls' := [(2, ((39 : Nat) : Int)), (0, 1), (0, (w : Int)), (0, (i : Int)), (0, ((j : Int) + 1))]) lk_33_55 rfl rfl rfl ?_
          refine g_goto (t := 17) lk_33_58 rfl ?_
          refine ih i (j + 1) _ (by omega) hi lay5 (hF.trans (Fr.mu _ _ rfl)) hM (fun q hq => ?_) ?_ k
          · rw [Mu_ct]
            show pm_upd (pm_ct N 41) i _ q = _
            rw [pm_upd_ne (by omega)]; exact hk q hq
          · rw [Mu_ct]
            show pm_upd (pm_ct N 41) i _ i = _
            have hc : cl T true i j = true := by
              cases hc : cl T true i j with
              | true => rfl
              | false => exact absurd (a3.mpr hc) h3
            rw [pm_upd_eq, e, if_pos hc, pm_shl_1 (by omega), pm_or_n (by omega) (by omega)]
  have outer : ∀ (n i : Nat) (v4 : pm_V) (N : pm_M), i + n = w → Lay N → Fr [41] M N → TbAt N 24 T → (∀ k, k < i → pm_ct N 41 k = ((cm T true k w : Nat) : Int)) → Wp (d + 2) 33 2 [(2, ((39 : Nat) : Int)), (0, 1), (0, (w : Int)), (0, (i : Int)), v4] [] N mc ms Q := by
    intro n
    induction n with
    | zero =>
      intro i v4 N hi lay hF hM hk
      refine g_iload_n lk_33_2 rfl ?_
      refine g_iload_n lk_33_3 rfl ?_
      refine g_icmp (t := 67) lk_33_4 rfl (by first | (unfold pm_inI; omega) | exact pm_and_in _ _ | exact pm_shr_in _ _ | exact pm_or_in _ _ | exact pm_xor_in _ _ | exact pm_shl_in _ _ | exact pm_cmp_in _ _ | exact pm_b8_in _ | (unfold pm_inI; split <;> omega)) (by first | (unfold pm_inI; omega) | exact pm_and_in _ _ | exact pm_shr_in _ _ | exact pm_or_in _ _ | exact pm_xor_in _ _ | exact pm_shl_in _ _ | exact pm_cmp_in _ _ | exact pm_b8_in _ | (unfold pm_inI; split <;> omega)) (fun h1 => ?_) (fun h1 => ?_)
      · replace h1 : (w : Int) ≤ (i : Int) := h1
        refine g_return lk_33_67 ?_
        rw [hQ]
        exact ⟨rfl, lay, hF, fun k hk' => hk k (by omega)⟩
      · replace h1 : ¬ ((w : Int) ≤ (i : Int)) := h1
        omega
    | succ n ih =>
      intro i v4 N hi lay hF hM hk
      refine g_iload_n lk_33_2 rfl ?_
      refine g_iload_n lk_33_3 rfl ?_
      refine g_icmp (t := 67) lk_33_4 rfl (by first | (unfold pm_inI; omega) | exact pm_and_in _ _ | exact pm_shr_in _ _ | exact pm_or_in _ _ | exact pm_xor_in _ _ | exact pm_shl_in _ _ | exact pm_cmp_in _ _ | exact pm_b8_in _ | (unfold pm_inI; split <;> omega)) (by first | (unfold pm_inI; omega) | exact pm_and_in _ _ | exact pm_shr_in _ _ | exact pm_or_in _ _ | exact pm_xor_in _ _ | exact pm_shl_in _ _ | exact pm_cmp_in _ _ | exact pm_b8_in _ | (unfold pm_inI; split <;> omega)) (fun h1 => ?_) (fun h1 => ?_)
      · replace h1 : (w : Int) ≤ (i : Int) := h1
        refine g_return lk_33_67 ?_
        omega
      · replace h1 : ¬ ((w : Int) ≤ (i : Int)) := h1
        refine g_aload_n lk_33_7 rfl ?_
        refine g_getfield lk_33_8 rfl (lay.on (by decide) rfl) (v := ((41 : Nat) : Int)) (lay.rf rfl) ?_
        refine g_iload_n lk_33_11 rfl ?_
        refine g_iconst lk_33_12 ?_
        have lay2 : Lay (Mu [(41, pm_upd (pm_ct N 41) i 0)] N) := lay.muA (l := []) (a := 41) (f := pm_upd (pm_ct N 41) i 0) rfl rfl
        refine m_iastore (u := []) (u' := [(41, pm_upd (pm_ct N 41) i 0)]) (M := N) lk_33_13 (lay.ay (by decide) rfl) (by omega) (j := i) (by omega) rfl ?_
        refine g_iconst lk_33_14 ?_
        refine g_istore (ls' := [(2, ((39 : Nat) : Int)), (0, 1), (0, (w : Int)), (0, (i : Int)), (0, 0)]) lk_33_15 rfl rfl ?_
        refine inner w i 0 _ (by omega) (by omega) lay2 (hF.trans (Fr.mu _ _ rfl)) hM (fun q hq => ?_) ?_ (fun N' b1 b2 b3 b4 v4 => ih (i + 1) v4 N' (by omega) b1 b2 b3 b4)
        · rw [Mu_ct]
          show pm_upd (pm_ct N 41) i _ q = _
          rw [pm_upd_ne (by omega)]; exact hk q hq
        · rw [Mu_ct]
          show pm_upd (pm_ct N 41) i _ i = _
          rw [pm_upd_eq]; rfl
  show Wp (d + 2) 33 0 [(2, ((39 : Nat) : Int)), (0, 1), (0, (w : Int)), (9, 0), (9, 0)] [] M mc ms Q
  refine g_iconst lk_33_0 ?_
  refine g_istore_n (ls' := [(2, ((39 : Nat) : Int)), (0, 1), (0, (w : Int)), (0, 0), (9, 0)]) lk_33_1 rfl rfl ?_
  exact outer w 0 _ M (by omega) lay0 (Fr.refl _ _) hM0 (fun k hk => absurd hk (Nat.not_lt_zero k))
set_option maxHeartbeats 4000000 in
theorem c_X_groups1 {d mc ms : Nat} {M : pm_M} (lay0 : Lay M) {T : Tab} (hT : TabOK T) (hM0 : TbAt M 24 T) :
    pm_E (d + 4) 134 [(2, ((1 : Nat) : Int)), (0, 1)] M mc ms (fun ρ M' => ρ = some (0, sGroups T true) ∧ Lay M' ∧ Fr [41, 42, 43] M M') := by
  obtain ⟨Q, hQ⟩ : ∃ Q : pm_Q, Q = (fun ρ M' => ρ = some (0, sGroups T true) ∧ Lay M' ∧ Fr [41, 42, 43] M M') := ⟨_, rfl⟩
  rw [← hQ]
  have hW := cfW_6 hT true
  obtain ⟨w, hw⟩ : ∃ w, w = cfW T true := ⟨_, rfl⟩
  rw [← hw] at hW
  have hg1 : ∀ k, k < 6 → tg T true (2 ^ k) = true := tg_one T true
  have w64 : 2 ^ w ≤ 64 := (Nat.pow_le_pow_right (by omega) hW.2.1 : 2 ^ w ≤ 2 ^ 6)
  have w1 : 1 ≤ 2 ^ w := Nat.one_le_two_pow
  have sh : pm_shl 1 (w : Int) = ((2 ^ w : Nat) : Int) := pm_shl_1 (by omega)
  obtain ⟨e, he⟩ : ∃ e, e = 2 ^ w := ⟨_, rfl⟩
  rw [← he] at w64 w1 sh
  have main : pm_E (d + 3) 32 [(2, ((39 : Nat) : Int)), (0, 1)] M mc ms Q := by
    have loop : ∀ (n s : Nat) (v4 v5 v6 : pm_V) (N : pm_M), s + n = e → 1 ≤ s → Lay N → Fr [41, 42, 43] M N → (∀ i, i < w → pm_ct N 41 i = ((cm T true i w : Nat) : Int)) → (∀ q, q < s → pm_ct N 42 q = if tg T true q then 1 else 0) → (∀ q, q < s → pm_ct N 43 q = (GG (tg T true) q : Int)) → Wp (d + 3) 32 44 [(2, ((39 : Nat) : Int)), (0, 1), (0, (w : Int)), (0, (s : Int)), v4, v5, v6] [] N mc ms Q := by
      intro n
      induction n with
      | zero =>
        intro s v4 v5 v6 N hs j1 lay hF hc hp hf
        obtain ⟨e1, he1⟩ : ∃ e1, e1 = e - 1 := ⟨_, rfl⟩
        have k1 : pm_shl 1 (w : Int) - 1 = (e1 : Int) := by rw [sh]; omega
        refine g_iload_n lk_32_44 rfl ?_
        refine g_iconst lk_32_45 ?_
        refine g_iload_n lk_32_46 rfl ?_
        refine g_ishl lk_32_47 ?_
        refine g_top (z := (pm_shl 1 (w : Int))) (z' := (e : Int)) (sh) ?_
        refine g_icmp (t := 134) lk_32_48 rfl (by first | (unfold pm_inI; omega) | exact pm_and_in _ _ | exact pm_shr_in _ _ | exact pm_or_in _ _ | exact pm_xor_in _ _ | exact pm_shl_in _ _ | exact pm_cmp_in _ _ | exact pm_b8_in _ | (unfold pm_inI; split <;> omega)) (by first | (unfold pm_inI; omega) | exact pm_and_in _ _ | exact pm_shr_in _ _ | exact pm_or_in _ _ | exact pm_xor_in _ _ | exact pm_shl_in _ _ | exact pm_cmp_in _ _ | exact pm_b8_in _ | (unfold pm_inI; split <;> omega)) (fun h1 => ?_) (fun h1 => ?_)
        · replace h1 : (e : Int) ≤ (s : Int) := h1
          refine g_aload_n lk_32_134 rfl ?_
          refine g_getfield lk_32_135 rfl (lay.on (by decide) rfl) (v := ((43 : Nat) : Int)) (lay.rf rfl) ?_
          refine g_iconst lk_32_138 ?_
          refine g_iload_n lk_32_139 rfl ?_
          refine g_ishl lk_32_140 ?_
          refine g_iconst lk_32_141 ?_
          refine g_isub lk_32_142 ?_
          refine g_top (z := ((pm_shl 1 (w : Int)) - 1)) (z' := (e1 : Int)) (k1) ?_
          refine m_iaload (u := []) (M := N) lk_32_143 (lay.ay (by decide) rfl) (by omega) (j := e1) (by omega) (v := pm_ct N 43 e1) rfl ?_
          refine g_ireturn lk_32_144 (fun h => absurd h (by decide)) ?_
          rw [hQ]
          refine ⟨?_, lay, hF⟩
          rw [hf e1 (by omega)]
          unfold sGroups
          rw [← hw, he1, he]
        · replace h1 : ¬ ((e : Int) ≤ (s : Int)) := h1
          omega
      | succ n ih =>
        intro s v4 v5 v6 N hs j1 lay hF hc hp hf
        obtain ⟨q0, q5, q1, q2, q6, q3, q4, q7, q8⟩ := lw_tab ⟨s, by omega⟩ (by show s ≠ 0; omega)
        obtain ⟨lo, hlo⟩ : ∃ lo, lo = lw s := ⟨_, rfl⟩
        obtain ⟨r, hr⟩ : ∃ r, r = s - lw s := ⟨_, rfl⟩
        obtain ⟨f, hf0⟩ : ∃ f, f = fstb s := ⟨_, rfl⟩
        have q0 : pm_and (s : Int) (-(s : Int)) = (lo : Int) := by rw [hlo]; exact q0
        have q5 : pm_xor (s : Int) (lo : Int) = (r : Int) := by rw [hlo, hr]; exact q5
        have q1 : 1 ≤ lo := by rw [hlo]; exact q1
        have q2 : lo ≤ s := by rw [hlo]; exact q2
        have q6 : pop lo = 1 := by rw [hlo]; exact q6
        have q3 : f < 6 := by rw [hf0]; exact q3
        have q4 : s.testBit f = true := by rw [hf0]; exact q4
        have q8 : fstb lo = f := by rw [hlo, hf0]; exact q8
        have hr2 : r = s - lo := by rw [hr, hlo]
        have fw : f < w := by
          refine Nat.lt_of_not_le (fun q => ?_)
          rw [Nat.testBit_lt_two_pow (Nat.lt_of_lt_of_le (by omega : s < 2 ^ w) (Nat.pow_le_pow_right (by omega) q))] at q4
          cases q4
        have cw : cm T true f w < 64 := lt_64_of (by omega : w ≤ 6) (cm_lt T true f w)
        have cr : cm T true f w &&& r < 64 := Nat.lt_of_le_of_lt Nat.and_le_left cw
        have hand : pm_and ((cm T true f w : Nat) : Int) (r : Int) = ((cm T true f w &&& r : Nat) : Int) := pm_and_n (by omega) (by omega)
        have tl := tg_low (T := T) (b := true) (s := s) (n := w) (by omega) (by omega) (by omega)
        rw [← hr, ← hf0] at tl
        have p41 := hc f fw
        have p42 := hp r (by omega)
        have nx : ∀ (v4 v5 v6 : pm_V) (f42 f43 : Nat → Int), f42 = pm_upd (pm_ct N 42) s (if tg T true s then 1 else 0) → f43 = pm_upd (pm_ct N 43) s (GG (tg T true) s : Int) → Lay (Mu [(42, f42), (43, f43)] N) → Wp (d + 3) 32 44 [(2, ((39 : Nat) : Int)), (0, 1), (0, (w : Int)), (0, ((s + 1 : Nat) : Int)), v4, v5, v6] [] (Mu [(42, f42), (43, f43)] N) mc ms Q := by
          intro v4 v5 v6 f42 f43 e42 e43 lay'
          refine ih (s + 1) v4 v5 v6 _ (by omega) (by omega) lay' (hF.trans (Fr.mu _ _ rfl)) (fun i hi => ?_) (fun q hq => ?_) (fun q hq => ?_)
          · rw [Mu_ct]; exact hc i hi
          · rw [Mu_ct]
            show f42 q = _
            rw [e42]
            by_cases e : q = s
            · subst e; rw [pm_upd_eq]
            · rw [pm_upd_ne e]; exact hp q (by omega)
          · rw [Mu_ct]
            show f43 q = _
            rw [e43]
            by_cases e : q = s
            · subst e; rw [pm_upd_eq]
            · rw [pm_upd_ne e]; exact hf q (by omega)
        have k108 : ∀ (v6 : pm_V) (f42 : Nat → Int), f42 = pm_upd (pm_ct N 42) s (if tg T true s then 1 else 0) → Lay (Mu [(42, f42)] N) → Wp (d + 3) 32 108 [(2, ((39 : Nat) : Int)), (0, 1), (0, (w : Int)), (0, (s : Int)), (0, (lo : Int)), (0, (r : Int)), v6] [] (Mu [(42, f42)] N) mc ms Q := by
          intro v6 f42 e42 lay'
          obtain ⟨P, hP⟩ : ∃ P, P = Mu [(42, f42)] N := ⟨_, rfl⟩
          rw [← hP] at lay' ⊢
          have P42 : pm_ct P 42 = f42 := by rw [hP, Mu_ct]; rfl
          have P43 : pm_ct P 43 = pm_ct N 43 := by rw [hP, Mu_ct]; rfl
          have p42s : pm_ct P 42 s = if tg T true s then (1 : Int) else 0 := by rw [P42, e42, pm_upd_eq]
          have cc : pm_E (d + 2) 34 [(2, ((39 : Nat) : Int)), (0, (lo : Int)), (0, (r : Int)), (0, if tg T true s then 1 else 0)] P 0 0 (fun ρ M' => ρ = some (0, (GG (tg T true) s : Int)) ∧ M' = P) := by
            rw [hlo, hr]
            refine c_Lines_leastParts lay' hg1 (by omega) (by omega) (fun q hq => ?_) (fun q hq => ?_)
            · rw [P42, e42]
              by_cases e : q = s
              · subst e; rw [pm_upd_eq]
              · rw [pm_upd_ne e]; exact hp q (by omega)
            · rw [P43]; exact hf q hq
          refine g_aload_n lk_32_108 rfl ?_
          refine g_getfield lk_32_109 rfl (lay'.on (by decide) rfl) (v := ((43 : Nat) : Int)) (lay'.rf rfl) ?_
          refine g_iload_n lk_32_112 rfl ?_
          refine g_aload_n lk_32_113 rfl ?_
          refine g_iload lk_32_114 rfl ?_
          refine g_iload lk_32_116 rfl ?_
          refine g_aload_n lk_32_118 rfl ?_
          refine g_getfield lk_32_119 rfl (lay'.on (by decide) rfl) (v := ((42 : Nat) : Int)) (lay'.rf rfl) ?_
          refine g_iload_n lk_32_122 rfl ?_
          refine m_iaload (u := []) (M := P) lk_32_123 (lay'.ay (by decide) rfl) (by omega) (j := s) (by omega) (v := (if tg T true s then (1 : Int) else 0)) p42s ?_
          refine g_virtual (p := 39) (Qc := _) lk_32_124 rfl (Nat.le_of_ble_eq_true rfl) rfl rfl (lay'.on (by decide) rfl) (Nat.le_of_ble_eq_true rfl) (Nat.le_of_ble_eq_true rfl) (Nat.zero_le _) (Nat.zero_le _) (cc) ?_
          rintro _ N1 ⟨rfl, hN1⟩
          rw [hN1]
          show Wp _ 32 127 [(2, ((39 : Nat) : Int)), (0, 1), (0, (w : Int)), (0, (s : Int)), (0, (lo : Int)), (0, (r : Int)), v6] [(0, (GG (tg T true) s : Int)), (0, (s : Int)), (2, ((43 : Nat) : Int))] P _ _ _
          have lay2 : Lay (Mu [(43, pm_upd (pm_ct P 43) s (GG (tg T true) s : Int))] P) := lay'.muA (l := []) (a := 43) (f := pm_upd (pm_ct P 43) s (GG (tg T true) s : Int)) rfl rfl
          refine m_iastore (u := []) (u' := [(43, pm_upd (pm_ct P 43) s (GG (tg T true) s : Int))]) (M := P) lk_32_127 (lay'.ay (by decide) rfl) (by omega) (j := s) (by omega) rfl ?_
          refine g_iinc (ls' := [(2, ((39 : Nat) : Int)), (0, 1), (0, (w : Int)), (0, ((s : Int) + 1)), (0, (lo : Int)), (0, (r : Int)), v6]) lk_32_128 rfl rfl rfl ?_
          refine g_goto (t := 44) lk_32_131 rfl ?_
          have e9 : Mu [(43, pm_upd (pm_ct P 43) s (GG (tg T true) s : Int))] P = Mu [(42, f42), (43, pm_upd (pm_ct N 43) s (GG (tg T true) s : Int))] N := by
            rw [P43, hP]
            refine pm_M_ext (by rw [Mu_1, Mu_1, Mu_1]) (fun a => by rw [Mu_kd, Mu_kd, Mu_kd]) (fun a => by rw [Mu_ln, Mu_ln, Mu_ln]) (fun a => ?_)
            rw [Mu_ct, Mu_ct, Mu_ct]
            show (if 43 = a then _ else if 42 = a then _ else _) = (if 42 = a then _ else if 43 = a then _ else _)
            by_cases h1 : 43 = a
            · rw [if_pos h1, if_neg (by omega), if_pos h1]
            · rw [if_neg h1, if_neg h1]
          have l9 : Lay (Mu [(43, pm_upd (pm_ct P 43) s (GG (tg T true) s : Int))] P) := lay2
          rw [e9] at l9 ⊢
          exact nx _ _ _ _ _ e42 rfl l9
        refine g_iload_n lk_32_44 rfl ?_
        refine g_iconst lk_32_45 ?_
        refine g_iload_n lk_32_46 rfl ?_
        refine g_ishl lk_32_47 ?_
        refine g_top (z := (pm_shl 1 (w : Int))) (z' := (e : Int)) (sh) ?_
        refine g_icmp (t := 134) lk_32_48 rfl (by first | (unfold pm_inI; omega) | exact pm_and_in _ _ | exact pm_shr_in _ _ | exact pm_or_in _ _ | exact pm_xor_in _ _ | exact pm_shl_in _ _ | exact pm_cmp_in _ _ | exact pm_b8_in _ | (unfold pm_inI; split <;> omega)) (by first | (unfold pm_inI; omega) | exact pm_and_in _ _ | exact pm_shr_in _ _ | exact pm_or_in _ _ | exact pm_xor_in _ _ | exact pm_shl_in _ _ | exact pm_cmp_in _ _ | exact pm_b8_in _ | (unfold pm_inI; split <;> omega)) (fun h1 => ?_) (fun h1 => ?_)
        · replace h1 : (e : Int) ≤ (s : Int) := h1
          refine g_aload_n lk_32_134 rfl ?_
          refine g_getfield lk_32_135 rfl (lay.on (by decide) rfl) (v := ((43 : Nat) : Int)) (lay.rf rfl) ?_
          refine g_iconst lk_32_138 ?_
          refine g_iload_n lk_32_139 rfl ?_
          refine g_ishl lk_32_140 ?_
          refine g_iconst lk_32_141 ?_
          refine g_isub lk_32_142 ?_
          refine m_iaload (u := []) (M := N) lk_32_143 (lay.ay (by decide) rfl) (by omega) (j := ((pm_shl 1 (w : Int)) - 1).toNat) (by omega) (v := pm_ct N 43 (((pm_shl 1 (w : Int)) - 1).toNat)) rfl ?_
          refine g_ireturn lk_32_144 (fun h => absurd h (by decide)) ?_
          omega
        · replace h1 : ¬ ((e : Int) ≤ (s : Int)) := h1
          refine g_iload_n lk_32_51 rfl ?_
          refine g_iload_n lk_32_52 rfl ?_
          refine g_ineg lk_32_53 ?_
          refine g_iand lk_32_54 ?_
          refine g_top (z := (pm_and (s : Int) (-(s : Int)))) (z' := (lo : Int)) (q0) ?_
          refine g_istore (ls' := [(2, ((39 : Nat) : Int)), (0, 1), (0, (w : Int)), (0, (s : Int)), (0, (lo : Int)), v5, v6]) lk_32_55 rfl rfl ?_
          refine g_iload_n lk_32_57 rfl ?_
          refine g_iload lk_32_58 rfl ?_
          refine g_ixor lk_32_60 ?_
          refine g_top (z := (pm_xor (s : Int) (lo : Int))) (z' := (r : Int)) (q5) ?_
          refine g_istore (ls' := [(2, ((39 : Nat) : Int)), (0, 1), (0, (w : Int)), (0, (s : Int)), (0, (lo : Int)), (0, (r : Int)), v6]) lk_32_61 rfl rfl ?_
          refine g_aload_n lk_32_63 rfl ?_
          refine g_getfield lk_32_64 rfl (lay.on (by decide) rfl) (v := ((41 : Nat) : Int)) (lay.rf rfl) ?_
          refine g_iload lk_32_67 rfl ?_
          refine g_static (Qc := _) lk_32_69 (by decide) rfl (Nat.le_of_ble_eq_true rfl) rfl rfl (Nat.le_of_ble_eq_true rfl) (Nat.le_of_ble_eq_true rfl) (Nat.zero_le _) (Nat.zero_le _) ((by have := c_X_placeOf (d := d + 1) (mc := 0) (ms := 0) (M := N) (v := lo) (by omega) q6; rw [q8] at this; exact this)) ?_
          rintro _ N2 ⟨rfl, hN2⟩
          rw [hN2]
          show Wp _ 32 72 [(2, ((39 : Nat) : Int)), (0, 1), (0, (w : Int)), (0, (s : Int)), (0, (lo : Int)), (0, (r : Int)), v6] [(0, (f : Int)), (2, ((41 : Nat) : Int))] N _ _ _
          refine m_iaload (u := []) (M := N) lk_32_72 (lay.ay (by decide) rfl) (by omega) (j := f) (by omega) (v := ((cm T true f w : Nat) : Int)) p41 ?_
          refine g_iload lk_32_73 rfl ?_
          refine g_iand lk_32_75 ?_
          refine g_top (z := (pm_and ((cm T true f w : Nat) : Int) (r : Int))) (z' := ((cm T true f w &&& r : Nat) : Int)) (hand) ?_
          refine g_if (t := 83) lk_32_76 rfl (by first | (unfold pm_inI; omega) | exact pm_and_in _ _ | exact pm_shr_in _ _ | exact pm_or_in _ _ | exact pm_xor_in _ _ | exact pm_shl_in _ _ | exact pm_cmp_in _ _ | exact pm_b8_in _ | (unfold pm_inI; split <;> omega)) (fun h3 => ?_) (fun h3 => ?_)
          · replace h3 : ¬ ((cm T true f w &&& r : Nat) : Int) = 0 := h3
            refine g_iconst lk_32_83 ?_
            refine g_istore (ls' := [(2, ((39 : Nat) : Int)), (0, 1), (0, (w : Int)), (0, (s : Int)), (0, (lo : Int)), (0, (r : Int)), (0, 0)]) lk_32_84 rfl rfl ?_
            refine g_aload_n lk_32_86 rfl ?_
            refine g_getfield lk_32_87 rfl (lay.on (by decide) rfl) (v := ((42 : Nat) : Int)) (lay.rf rfl) ?_
            refine g_iload_n lk_32_90 rfl ?_
            refine g_iload lk_32_91 rfl ?_
            refine g_if (t := 106) lk_32_93 rfl (by first | (unfold pm_inI; omega) | exact pm_and_in _ _ | exact pm_shr_in _ _ | exact pm_or_in _ _ | exact pm_xor_in _ _ | exact pm_shl_in _ _ | exact pm_cmp_in _ _ | exact pm_b8_in _ | (unfold pm_inI; split <;> omega)) (fun _ => ?_) (fun h => absurd (show (0 : Int) = (0 : Int) by omega) h)
            refine g_iconst lk_32_106 ?_
            have lay4 : Lay (Mu [(42, pm_upd (pm_ct N 42) s 0)] N) := lay.muA (l := []) (a := 42) (f := pm_upd (pm_ct N 42) s 0) rfl rfl
            refine m_iastore (u := []) (u' := [(42, pm_upd (pm_ct N 42) s 0)]) (M := N) lk_32_107 (lay.ay (by decide) rfl) (by omega) (j := s) (by omega) rfl ?_
            refine k108 _ _ (congrArg (pm_upd (pm_ct N 42) s) ?_) lay4
            rw [if_neg (fun q => h3 (by rw [(tl.mp q).1]; rfl))]
          · replace h3 : ¬ (¬ ((cm T true f w &&& r : Nat) : Int) = 0) := h3
            refine g_iconst lk_32_79 ?_
            refine g_goto (t := 84) lk_32_80 rfl ?_
            refine g_istore (ls' := [(2, ((39 : Nat) : Int)), (0, 1), (0, (w : Int)), (0, (s : Int)), (0, (lo : Int)), (0, (r : Int)), (0, 1)]) lk_32_84 rfl rfl ?_
            refine g_aload_n lk_32_86 rfl ?_
            refine g_getfield lk_32_87 rfl (lay.on (by decide) rfl) (v := ((42 : Nat) : Int)) (lay.rf rfl) ?_
            refine g_iload_n lk_32_90 rfl ?_
            refine g_iload lk_32_91 rfl ?_
            refine g_if (t := 106) lk_32_93 rfl (by first | (unfold pm_inI; omega) | exact pm_and_in _ _ | exact pm_shr_in _ _ | exact pm_or_in _ _ | exact pm_xor_in _ _ | exact pm_shl_in _ _ | exact pm_cmp_in _ _ | exact pm_b8_in _ | (unfold pm_inI; split <;> omega)) (fun h => absurd h (show ¬ ((1 : Int) = (0 : Int)) by omega)) (fun _ => ?_)
            refine g_aload_n lk_32_96 rfl ?_
            refine g_getfield lk_32_97 rfl (lay.on (by decide) rfl) (v := ((42 : Nat) : Int)) (lay.rf rfl) ?_
            refine g_iload lk_32_100 rfl ?_
            refine m_iaload (u := []) (M := N) lk_32_102 (lay.ay (by decide) rfl) (by omega) (j := r) (by omega) (v := (if tg T true r then (1 : Int) else 0)) p42 ?_
            refine g_goto (t := 107) lk_32_103 rfl ?_
            have lay5 : Lay (Mu [(42, pm_upd (pm_ct N 42) s (if tg T true r then (1 : Int) else 0))] N) := lay.muA (l := []) (a := 42) (f := pm_upd (pm_ct N 42) s (if tg T true r then (1 : Int) else 0)) rfl rfl
            refine m_iastore (u := []) (u' := [(42, pm_upd (pm_ct N 42) s (if tg T true r then (1 : Int) else 0))]) (M := N) lk_32_107 (lay.ay (by decide) rfl) (by omega) (j := s) (by omega) rfl ?_
            refine k108 _ _ (congrArg (pm_upd (pm_ct N 42) s) ?_) lay5
            have z : cm T true f w &&& r = 0 := by omega
            by_cases q : tg T true r = true
            · rw [if_pos q, if_pos (tl.mpr ⟨z, q⟩)]
            · rw [if_neg q, if_neg (fun c => q (tl.mp c).2)]
    have after : ∀ N : pm_M, Lay N → Fr [41] M N → (∀ i, i < cfW T true → pm_ct N 41 i = ((cm T true i (cfW T true) : Nat) : Int)) → Wp (d + 3) 32 28 [(2, ((39 : Nat) : Int)), (0, 1), (0, (tC T : Int)), (9, 0), (9, 0), (9, 0), (9, 0)] [] N mc ms Q := by
      intro N lay hF hc
      rw [← hw] at hc
      have ew : tC T = w := by rw [hw]; rfl
      rw [ew]
      refine g_aload_n lk_32_28 rfl ?_
      refine g_getfield lk_32_29 rfl (lay.on (by decide) rfl) (v := ((42 : Nat) : Int)) (lay.rf rfl) ?_
      refine g_iconst lk_32_32 ?_
      refine g_iconst lk_32_33 ?_
      have lay1 : Lay (Mu [(42, pm_upd (pm_ct N 42) 0 1)] N) := lay.muA (l := []) (a := 42) (f := pm_upd (pm_ct N 42) 0 1) rfl rfl
      refine m_iastore (u := []) (u' := [(42, pm_upd (pm_ct N 42) 0 1)]) (M := N) lk_32_34 (lay.ay (by decide) rfl) (by omega) (j := 0) (by omega) rfl ?_
      refine g_aload_n lk_32_35 rfl ?_
      refine g_getfield lk_32_36 rfl (lay1.on (by decide) rfl) (v := ((43 : Nat) : Int)) (lay1.rf rfl) ?_
      refine g_iconst lk_32_39 ?_
      refine g_iconst lk_32_40 ?_
      have lay2 : Lay (Mu [(42, pm_upd (pm_ct N 42) 0 1), (43, pm_upd (pm_ct N 43) 0 0)] N) := lay1.muA (l := [(42, pm_upd (pm_ct N 42) 0 1)]) (a := 43) (f := pm_upd (pm_ct N 43) 0 0) rfl rfl
      refine m_iastore (u := [(42, pm_upd (pm_ct N 42) 0 1)]) (u' := [(42, pm_upd (pm_ct N 42) 0 1), (43, pm_upd (pm_ct N 43) 0 0)]) (M := N) lk_32_41 (lay1.ay (by decide) rfl) (by omega) (j := 0) (by omega) rfl ?_
      refine g_iconst lk_32_42 ?_
      refine g_istore_n (ls' := [(2, ((39 : Nat) : Int)), (0, 1), (0, (w : Int)), (0, 1), (9, 0), (9, 0), (9, 0)]) lk_32_43 rfl rfl ?_
      refine loop (e - 1) 1 _ _ _ _ (by omega) (by omega) lay2 ((hF.mono (fun a q => by rw [List.mem_singleton] at q; rw [q]; decide)).trans (Fr.mu _ _ rfl)) (fun i hi => ?_) (fun q hq => ?_) (fun q hq => ?_)
      · rw [Mu_ct]; exact hc i hi
      · rw [Mu_ct, show q = 0 by omega]
        show pm_upd (pm_ct N 42) 0 1 0 = _
        rw [pm_upd_eq, if_pos ((tg_iff T true (by omega)).mpr (fun i j h => by rw [Nat.zero_testBit] at h; cases h))]
      · rw [Mu_ct, show q = 0 by omega, GG_0]
        show pm_upd (pm_ct N 43) 0 0 0 = _
        rw [pm_upd_eq]; rfl
    show Wp (d + 3) 32 0 [(2, ((39 : Nat) : Int)), (0, 1), (9, 0), (9, 0), (9, 0), (9, 0), (9, 0)] [] M mc ms Q
    refine g_iload_n lk_32_0 rfl ?_
    refine g_if (t := 14) lk_32_1 rfl (by first | (unfold pm_inI; omega) | exact pm_and_in _ _ | exact pm_shr_in _ _ | exact pm_or_in _ _ | exact pm_xor_in _ _ | exact pm_shl_in _ _ | exact pm_cmp_in _ _ | exact pm_b8_in _ | (unfold pm_inI; split <;> omega)) (fun h => absurd h (show ¬ ((1 : Int) = (0 : Int)) by omega)) (fun _ => ?_)
    refine g_aload_n lk_32_4 rfl ?_
    refine g_getfield lk_32_5 rfl (lay0.on (by decide) rfl) (v := ((24 : Nat) : Int)) (lay0.rf rfl) ?_
    refine m_getfield (u := []) (M := M) lk_32_8 rfl (lay0.on (by decide) rfl) (v := (tC T : Int)) hM0.2.1 ?_
    refine g_goto (t := 21) lk_32_11 rfl ?_
    refine g_istore_n (ls' := [(2, ((39 : Nat) : Int)), (0, 1), (0, (tC T : Int)), (9, 0), (9, 0), (9, 0), (9, 0)]) lk_32_21 rfl rfl ?_
    refine g_aload_n lk_32_22 rfl ?_
    refine g_iload_n lk_32_23 rfl ?_
    refine g_iload_n lk_32_24 rfl ?_
    refine g_virtual (p := 39) (Qc := _) lk_32_25 rfl (Nat.le_of_ble_eq_true rfl) rfl rfl (lay0.on (by decide) rfl) (Nat.le_of_ble_eq_true rfl) (Nat.le_of_ble_eq_true rfl) (Nat.zero_le _) (Nat.zero_le _) (c_Lines_findClashes1 (d := d) (mc := 0) (ms := 0) lay0 hT hM0) ?_
    rintro _ N' ⟨rfl, lay', hF', hc⟩
    exact after N' lay' hF' hc
  show Wp (d + 4) 134 0 [(2, ((1 : Nat) : Int)), (0, 1)] [] M mc ms Q
  refine g_aload_n lk_134_0 rfl ?_
  refine g_getfield lk_134_1 rfl (lay0.on (by decide) rfl) (v := ((39 : Nat) : Int)) (lay0.rf rfl) ?_
  refine g_iload_n lk_134_4 rfl ?_
  refine g_virtual (p := 39) (Qc := Q) lk_134_5 rfl (Nat.le_of_ble_eq_true rfl) rfl rfl (lay0.on (by decide) rfl) (Nat.le_of_ble_eq_true rfl) (Nat.le_of_ble_eq_true rfl) (Nat.le_refl _) (Nat.le_refl _) main ?_
  rintro ρ N' hq
  have hq2 := hq
  rw [hQ] at hq2
  obtain ⟨rfl, -, -⟩ := hq2
  exact g_ireturn lk_134_8 (fun h => absurd h (by decide)) hq
set_option maxHeartbeats 4000000 in
theorem c_Mo_groups1 {d mc ms : Nat} {M : pm_M} (lay0 : Lay M) {T : Tab} (hT : TabOK T) (hM0 : MoAt M T) :
    pm_E (d + 3) 231 [(2, ((116 : Nat) : Int)), (0, 1)] M mc ms (fun ρ M' => ρ = some (0, sGroups T true) ∧ Lay M' ∧ MF [141] [0] M M') := by
  obtain ⟨Q, hQ⟩ : ∃ Q : pm_Q, Q = (fun ρ M' => ρ = some (0, sGroups T true) ∧ Lay M' ∧ MF [141] [0] M M') := ⟨_, rfl⟩
  rw [← hQ]
  have hW := cfW_6 hT true
  obtain ⟨w, hw⟩ : ∃ w, w = cfW T true := ⟨_, rfl⟩
  rw [← hw] at hW
  have ew : tC T = w := by rw [hw]; rfl
  have hg1 : ∀ k, k < 6 → tg T true (2 ^ k) = true := tg_one T true
  have w64 : 2 ^ w ≤ 64 := (Nat.pow_le_pow_right (by omega) hW.2.1 : 2 ^ w ≤ 2 ^ 6)
  have w1 : 1 ≤ 2 ^ w := Nat.one_le_two_pow
  obtain ⟨e, he⟩ : ∃ e, e = 2 ^ w - 1 := ⟨_, rfl⟩
  have inner : ∀ (n s p : Nat) (N : pm_M), p + n = s + 1 → 1 ≤ p → 1 ≤ s → s ≤ e → Lay N → MF [141] [0] M N → (∀ q, q < s → pm_ct N 141 q = (GG (tg T true) q : Int)) → pm_ct N 141 s = (mn (gC (tg T true) s) (fun p => GG (tg T true) (s - p) + 1) p : Int) →
      (∀ N' : pm_M, Lay N' → MF [141] [0] M N' → (∀ q, q < s + 1 → pm_ct N' 141 q = (GG (tg T true) q : Int)) → ∀ v4 : pm_V, Wp (d + 3) 231 30 [(2, ((116 : Nat) : Int)), (0, 1), (0, (e : Int)), (0, ((s + 1 : Nat) : Int)), v4] [] N' mc ms Q) →
      Wp (d + 3) 231 47 [(2, ((116 : Nat) : Int)), (0, 1), (0, (e : Int)), (0, (s : Int)), (0, (p : Int))] [] N mc ms Q := by
    intro n
    induction n with
    | zero =>
      intro s p N hp j1 hs hse lay hF hk hij k
      have eg := GG_s (tg T true) (s := s) (by omega) (by omega)
      refine g_iload lk_231_47 rfl ?_
      refine g_iload_n lk_231_49 rfl ?_
      refine g_icmp (t := 119) lk_231_50 rfl (by first | (unfold pm_inI; omega) | exact pm_and_in _ _ | exact pm_shr_in _ _ | exact pm_or_in _ _ | exact pm_xor_in _ _ | exact pm_shl_in _ _ | exact pm_cmp_in _ _ | exact pm_b8_in _ | (unfold pm_inI; split <;> omega)) (by first | (unfold pm_inI; omega) | exact pm_and_in _ _ | exact pm_shr_in _ _ | exact pm_or_in _ _ | exact pm_xor_in _ _ | exact pm_shl_in _ _ | exact pm_cmp_in _ _ | exact pm_b8_in _ | (unfold pm_inI; split <;> omega)) (fun h1 => ?_) (fun h1 => ?_)
      · replace h1 : (s : Int) < (p : Int) := h1
        refine g_iinc (ls' := [(2, ((116 : Nat) : Int)), (0, 1), (0, (e : Int)), (0, ((s : Int) + 1)), (0, (p : Int))]) lk_231_119 rfl rfl rfl ?_
        refine g_goto (t := 30) lk_231_122 rfl ?_
        refine k N lay hF (fun q hq => ?_) _
        by_cases e : q = s
        · subst e; rw [hij, eg, show p = q + 1 by omega]
        · exact hk q (by omega)
      · replace h1 : ¬ ((s : Int) < (p : Int)) := h1
        omega
    | succ n ih =>
      intro s p N hp j1 hs hse lay hF hk hij k
      have hM : MoAt N T := hM0.mf hF (by decide) (by decide) (by decide) (by decide)
      have es := mn_s (gC (tg T true) s) (fun p => GG (tg T true) (s - p) + 1) p
      have fm := mn_far (gC (tg T true) s) (fun p => GG (tg T true) (s - p) + 1) p
      obtain ⟨m, hm⟩ : ∃ m, m = mn (gC (tg T true) s) (fun p => GG (tg T true) (s - p) + 1) p := ⟨_, rfl⟩
      rw [← hm] at es fm hij
      have n1 := pm_nand (a := p) (b := s) (by omega) (by omega)
      have n2 := pm_nand (a := s) (b := p) (by omega) (by omega)
      obtain ⟨dp, hdp⟩ : ∃ dp, dp = p - (p &&& s) := ⟨_, rfl⟩
      obtain ⟨ds, hds⟩ : ∃ ds, ds = s - (s &&& p) := ⟨_, rfl⟩
      rw [← hdp] at n1
      rw [← hds] at n2
      have hle : p &&& s ≤ p := Nat.and_le_left
      have sb : dp = 0 ↔ Sb p s = true := by rw [Sb_eq]; omega
      have hsp : Sb p s = true → ds = s - p := fun q => by rw [hds, Nat.and_comm, Sb_eq.mp q]
      have dss : dp = 0 → ds < s := fun q => by rw [hsp (sb.mp q)]; omega
      have v1 : dp = 0 → pm_ct N 141 ds = (GG (tg T true) ds : Int) := fun q => hk ds (dss q)
      have gl := fun q => GG_lt hg1 ds (by have := dss q; omega)
      have keepN : ¬ (Sb p s = true ∧ tg T true p = true ∧ GG (tg T true) (s - p) + 1 < m) → Wp (d + 3) 231 47 [(2, ((116 : Nat) : Int)), (0, 1), (0, (e : Int)), (0, (s : Int)), (0, ((p + 1 : Nat) : Int))] [] N mc ms Q := by
        intro q
        refine ih s (p + 1) N (by omega) (by omega) hs hse lay hF hk ?_ k
        rw [hij, es]
        by_cases c : gC (tg T true) s p = true
        · rw [if_pos c]
          obtain ⟨-, c1, c2⟩ := gC_iff.mp c
          show (m : Int) = ((min m (GG (tg T true) (s - p) + 1) : Nat) : Int)
          have : ¬ GG (tg T true) (s - p) + 1 < m := fun z => q ⟨c1, c2, z⟩
          omega
        · rw [if_neg c]
      refine g_iload lk_231_47 rfl ?_
      refine g_iload_n lk_231_49 rfl ?_
      refine g_icmp (t := 119) lk_231_50 rfl (by first | (unfold pm_inI; omega) | (unfold pm_inI; have := gl (by omega); omega) | (unfold pm_inI; split <;> omega)) (by first | (unfold pm_inI; omega) | (unfold pm_inI; have := gl (by omega); omega) | (unfold pm_inI; split <;> omega)) (fun h1 => ?_) (fun h1 => ?_)
      · replace h1 : (s : Int) < (p : Int) := h1
        refine g_iinc (ls' := [(2, ((116 : Nat) : Int)), (0, 1), (0, (e : Int)), (0, ((s : Int) + 1)), (0, (p : Int))]) lk_231_119 rfl rfl rfl ?_
        refine g_goto (t := 30) lk_231_122 rfl ?_
        omega
      · replace h1 : ¬ ((s : Int) < (p : Int)) := h1
        refine g_iload lk_231_53 rfl ?_
        refine g_iload_n lk_231_55 rfl ?_
        refine g_iconst lk_231_56 ?_
        refine g_ixor lk_231_57 ?_
        refine g_iand lk_231_58 ?_
        refine g_top (z := (pm_and (p : Int) (pm_xor (s : Int) (-1)))) (z' := (dp : Int)) (n1) ?_
        refine g_if (t := 113) lk_231_59 rfl (by first | (unfold pm_inI; omega) | (unfold pm_inI; have := gl (by omega); omega) | (unfold pm_inI; split <;> omega)) (fun h2 => ?_) (fun h2 => ?_)
        · replace h2 : ¬ (dp : Int) = 0 := h2
          refine g_iinc (ls' := [(2, ((116 : Nat) : Int)), (0, 1), (0, (e : Int)), (0, (s : Int)), (0, ((p : Int) + 1))]) lk_231_113 rfl rfl rfl ?_
          refine g_goto (t := 47) lk_231_116 rfl ?_
          exact keepN (fun q => h2 (by rw [sb.mpr q.1]; rfl))
        · replace h2 : ¬ (¬ (dp : Int) = 0) := h2
          refine g_aload_n lk_231_62 rfl ?_
          refine g_getfield lk_231_63 rfl (lay.on (by decide) rfl) (v := ((141 : Nat) : Int)) (lay.rf rfl) ?_
          refine g_iload_n lk_231_66 rfl ?_
          refine g_iload lk_231_67 rfl ?_
          refine g_iconst lk_231_69 ?_
          refine g_ixor lk_231_70 ?_
          refine g_iand lk_231_71 ?_
          refine g_top (z := (pm_and (s : Int) (pm_xor (p : Int) (-1)))) (z' := (ds : Int)) (n2) ?_
          refine m_iaload (u := []) (M := N) lk_231_72 (lay.ay (by decide) rfl) (by first | omega | (have := dss (by omega); omega)) (j := ds) (by omega) (v := (GG (tg T true) ds : Int)) (v1 (by omega)) ?_
          refine g_iconst lk_231_73 ?_
          refine g_iadd lk_231_74 ?_
          refine g_aload_n lk_231_75 rfl ?_
          refine g_getfield lk_231_76 rfl (lay.on (by decide) rfl) (v := ((141 : Nat) : Int)) (lay.rf rfl) ?_
          refine g_iload_n lk_231_79 rfl ?_
          refine m_iaload (u := []) (M := N) lk_231_80 (lay.ay (by decide) rfl) (by first | omega | (have := dss (by omega); omega)) (j := s) (by omega) (v := (m : Int)) hij ?_
          refine g_icmp (t := 113) lk_231_81 rfl (by first | (unfold pm_inI; omega) | (unfold pm_inI; have := gl (by omega); omega) | (unfold pm_inI; split <;> omega)) (by first | (unfold pm_inI; omega) | (unfold pm_inI; have := gl (by omega); omega) | (unfold pm_inI; split <;> omega)) (fun h3 => ?_) (fun h3 => ?_)
          · replace h3 : (m : Int) ≤ ((GG (tg T true) ds : Int) + 1) := h3
            refine g_iinc (ls' := [(2, ((116 : Nat) : Int)), (0, 1), (0, (e : Int)), (0, (s : Int)), (0, ((p : Int) + 1))]) lk_231_113 rfl rfl rfl ?_
            refine g_goto (t := 47) lk_231_116 rfl ?_
            refine keepN (fun q => ?_)
            rw [hsp q.1] at h3
            omega
          · replace h3 : ¬ ((m : Int) ≤ ((GG (tg T true) ds : Int) + 1)) := h3
            refine g_aload_n lk_231_84 rfl ?_
            refine g_iload_n lk_231_85 rfl ?_
            refine g_iload lk_231_86 rfl ?_
            refine g_virtual (p := 116) (Qc := _) lk_231_88 rfl (Nat.le_of_ble_eq_true rfl) rfl rfl (lay.on (by decide) rfl) (Nat.le_of_ble_eq_true rfl) (Nat.le_of_ble_eq_true rfl) (Nat.zero_le _) (Nat.zero_le _) (c_Mo_goTogetherB lay hT hM (by omega)) ?_
            rintro _ N4 ⟨rfl, hN4⟩
            rw [hN4]
            show Wp _ 231 91 [(2, ((116 : Nat) : Int)), (0, 1), (0, (e : Int)), (0, (s : Int)), (0, (p : Int))] [(0, (if togB T p (tR T) = true then (1 : Int) else 0))] N _ _ _
            refine g_if (t := 113) lk_231_91 rfl (by first | (unfold pm_inI; omega) | (unfold pm_inI; have := gl (by omega); omega) | (unfold pm_inI; split <;> omega)) (fun h5 => ?_) (fun h5 => ?_)
            · replace h5 : (if togB T p (tR T) = true then (1 : Int) else 0) = 0 := h5
              refine g_iinc (ls' := [(2, ((116 : Nat) : Int)), (0, 1), (0, (e : Int)), (0, (s : Int)), (0, ((p : Int) + 1))]) lk_231_113 rfl rfl rfl ?_
              refine g_goto (t := 47) lk_231_116 rfl ?_
              refine keepN (fun q => ?_)
              rw [togB_tg hT (by rw [ew]; omega), if_pos q.2.1] at h5
              omega
            · replace h5 : ¬ ((if togB T p (tR T) = true then (1 : Int) else 0) = 0) := h5
              refine g_aload_n lk_231_94 rfl ?_
              refine g_getfield lk_231_95 rfl (lay.on (by decide) rfl) (v := ((141 : Nat) : Int)) (lay.rf rfl) ?_
              refine g_iload_n lk_231_98 rfl ?_
              refine g_aload_n lk_231_99 rfl ?_
              refine g_getfield lk_231_100 rfl (lay.on (by decide) rfl) (v := ((141 : Nat) : Int)) (lay.rf rfl) ?_
              refine g_iload_n lk_231_103 rfl ?_
              refine g_iload lk_231_104 rfl ?_
              refine g_iconst lk_231_106 ?_
              refine g_ixor lk_231_107 ?_
              refine g_iand lk_231_108 ?_
              refine g_top (z := (pm_and (s : Int) (pm_xor (p : Int) (-1)))) (z' := (ds : Int)) (n2) ?_
              refine m_iaload (u := []) (M := N) lk_231_109 (lay.ay (by decide) rfl) (by first | omega | (have := dss (by omega); omega)) (j := ds) (by omega) (v := (GG (tg T true) ds : Int)) (v1 (by omega)) ?_
              refine g_iconst lk_231_110 ?_
              refine g_iadd lk_231_111 ?_
              have lay6 : Lay (Mu [(141, pm_upd (pm_ct N 141) s ((GG (tg T true) ds : Int) + 1))] N) := lay.muA (l := []) (a := 141) (f := pm_upd (pm_ct N 141) s ((GG (tg T true) ds : Int) + 1)) rfl rfl
              refine m_iastore (u := []) (u' := [(141, pm_upd (pm_ct N 141) s ((GG (tg T true) ds : Int) + 1))]) (M := N) lk_231_112 (lay.ay (by decide) rfl) (by first | omega | (have := dss (by omega); omega)) (j := s) (by omega) rfl ?_
              refine g_iinc (ls' := [(2, ((116 : Nat) : Int)), (0, 1), (0, (e : Int)), (0, (s : Int)), (0, ((p : Int) + 1))]) lk_231_113 rfl rfl rfl ?_
              refine g_goto (t := 47) lk_231_116 rfl ?_
              have z : Sb p s = true := sb.mp (by omega)
              have tq : tg T true p = true := by
                rw [togB_tg hT (by rw [ew]; omega)] at h5
                cases hc : tg T true p with
                | true => rfl
                | false => rw [hc] at h5; exact absurd rfl h5
              refine ih s (p + 1) _ (by omega) (by omega) hs hse lay6 (hF.trans (MF.mu _ _ rfl (fun k _ => rfl))) (fun q hq => ?_) ?_ k
              · rw [Mu_ct]
                show pm_upd (pm_ct N 141) s _ q = _
                rw [pm_upd_ne (by omega)]; exact hk q hq
              · rw [Mu_ct]
                show pm_upd (pm_ct N 141) s _ s = _
                rw [pm_upd_eq, es, if_pos (gC_iff.mpr ⟨by omega, z, tq⟩)]
                show _ = ((min m (GG (tg T true) (s - p) + 1) : Nat) : Int)
                rw [← hsp z]
                omega
  have outer : ∀ (n s : Nat) (v4 : pm_V) (N : pm_M), s + n = e + 1 → 1 ≤ s → Lay N → MF [141] [0] M N → (∀ q, q < s → pm_ct N 141 q = (GG (tg T true) q : Int)) → Wp (d + 3) 231 30 [(2, ((116 : Nat) : Int)), (0, 1), (0, (e : Int)), (0, (s : Int)), v4] [] N mc ms Q := by
    intro n
    induction n with
    | zero =>
      intro s v4 N hs j1 lay hF hk
      refine g_iload_n lk_231_30 rfl ?_
      refine g_iload_n lk_231_31 rfl ?_
      refine g_icmp (t := 125) lk_231_32 rfl (by first | (unfold pm_inI; omega) | exact pm_and_in _ _ | exact pm_shr_in _ _ | exact pm_or_in _ _ | exact pm_xor_in _ _ | exact pm_shl_in _ _ | exact pm_cmp_in _ _ | exact pm_b8_in _ | (unfold pm_inI; split <;> omega)) (by first | (unfold pm_inI; omega) | exact pm_and_in _ _ | exact pm_shr_in _ _ | exact pm_or_in _ _ | exact pm_xor_in _ _ | exact pm_shl_in _ _ | exact pm_cmp_in _ _ | exact pm_b8_in _ | (unfold pm_inI; split <;> omega)) (fun h1 => ?_) (fun h1 => ?_)
      · replace h1 : (e : Int) < (s : Int) := h1
        refine g_aload_n lk_231_125 rfl ?_
        refine g_getfield lk_231_126 rfl (lay.on (by decide) rfl) (v := ((141 : Nat) : Int)) (lay.rf rfl) ?_
        refine g_iload_n lk_231_129 rfl ?_
        refine m_iaload (u := []) (M := N) lk_231_130 (lay.ay (by decide) rfl) (by omega) (j := e) (by omega) (v := pm_ct N 141 e) rfl ?_
        refine g_ireturn lk_231_131 (fun h => absurd h (by decide)) ?_
        rw [hQ]
        refine ⟨?_, lay, hF⟩
        rw [hk e (by omega)]
        unfold sGroups
        rw [← hw, he]
      · replace h1 : ¬ ((e : Int) < (s : Int)) := h1
        omega
    | succ n ih =>
      intro s v4 N hs j1 lay hF hk
      refine g_iload_n lk_231_30 rfl ?_
      refine g_iload_n lk_231_31 rfl ?_
      refine g_icmp (t := 125) lk_231_32 rfl (by first | (unfold pm_inI; omega) | exact pm_and_in _ _ | exact pm_shr_in _ _ | exact pm_or_in _ _ | exact pm_xor_in _ _ | exact pm_shl_in _ _ | exact pm_cmp_in _ _ | exact pm_b8_in _ | (unfold pm_inI; split <;> omega)) (by first | (unfold pm_inI; omega) | exact pm_and_in _ _ | exact pm_shr_in _ _ | exact pm_or_in _ _ | exact pm_xor_in _ _ | exact pm_shl_in _ _ | exact pm_cmp_in _ _ | exact pm_b8_in _ | (unfold pm_inI; split <;> omega)) (fun h1 => ?_) (fun h1 => ?_)
      · replace h1 : (e : Int) < (s : Int) := h1
        refine g_aload_n lk_231_125 rfl ?_
        refine g_getfield lk_231_126 rfl (lay.on (by decide) rfl) (v := ((141 : Nat) : Int)) (lay.rf rfl) ?_
        refine g_iload_n lk_231_129 rfl ?_
        refine m_iaload (u := []) (M := N) lk_231_130 (lay.ay (by decide) rfl) (by omega) (j := e) (by omega) (v := pm_ct N 141 e) rfl ?_
        refine g_ireturn lk_231_131 (fun h => absurd h (by decide)) ?_
        omega
      · replace h1 : ¬ ((e : Int) < (s : Int)) := h1
        refine g_aload_n lk_231_35 rfl ?_
        refine g_getfield lk_231_36 rfl (lay.on (by decide) rfl) (v := ((141 : Nat) : Int)) (lay.rf rfl) ?_
        refine g_iload_n lk_231_39 rfl ?_
        refine g_ldc_w lk_231_40 ?_
        have lay2 : Lay (Mu [(141, pm_upd (pm_ct N 141) s 1000000)] N) := lay.muA (l := []) (a := 141) (f := pm_upd (pm_ct N 141) s 1000000) rfl rfl
        refine m_iastore (u := []) (u' := [(141, pm_upd (pm_ct N 141) s 1000000)]) (M := N) lk_231_43 (lay.ay (by decide) rfl) (by omega) (j := s) (by omega) rfl ?_
        refine g_iconst lk_231_44 ?_
        refine g_istore (ls' := [(2, ((116 : Nat) : Int)), (0, 1), (0, (e : Int)), (0, (s : Int)), (0, 1)]) lk_231_45 rfl rfl ?_
        refine inner s s 1 _ (by omega) (by omega) j1 (by omega) lay2 (hF.trans (MF.mu _ _ rfl (fun k _ => rfl))) (fun q hq => ?_) ?_ (fun N' b1 b2 b3 v4 => ih (s + 1) v4 N' (by omega) (by omega) b1 b2 b3)
        · rw [Mu_ct]
          show pm_upd (pm_ct N 141) s _ q = _
          rw [pm_upd_ne (by omega)]; exact hk q hq
        · rw [Mu_ct]
          show pm_upd (pm_ct N 141) s _ s = _
          rw [pm_upd_eq, mn_s]
          rfl
  show Wp (d + 3) 231 0 [(2, ((116 : Nat) : Int)), (0, 1), (9, 0), (9, 0), (9, 0)] [] M mc ms Q
  refine g_aload_n lk_231_0 rfl ?_
  refine g_iconst lk_231_1 ?_
  have lay1 : Lay (Mu [(116, pm_upd (pm_ct M 116) 0 0)] M) := lay0.muF (l := []) (a := 116) (k := 0) (z := 0) rfl rfl
  refine m_putfield (u := []) (u' := [(116, pm_upd (pm_ct M 116) 0 0)]) (M := M) lk_231_2 rfl (lay0.on (by decide) rfl) (fun h => absurd h (by decide)) rfl ?_
  refine g_iload_n lk_231_5 rfl ?_
  refine g_if (t := 16) lk_231_6 rfl (by first | (unfold pm_inI; omega) | exact pm_and_in _ _ | exact pm_shr_in _ _ | exact pm_or_in _ _ | exact pm_xor_in _ _ | exact pm_shl_in _ _ | exact pm_cmp_in _ _ | exact pm_b8_in _ | (unfold pm_inI; split <;> omega)) (fun h => absurd h (show ¬ ((1 : Int) = (0 : Int)) by omega)) (fun _ => ?_)
  refine g_aload_n lk_231_9 rfl ?_
  refine g_virtual (p := 116) (Qc := _) lk_231_10 rfl (Nat.le_of_ble_eq_true rfl) rfl rfl (lay1.on (by decide) rfl) (Nat.le_of_ble_eq_true rfl) (Nat.le_of_ble_eq_true rfl) (Nat.zero_le _) (Nat.zero_le _) (c_Mo_allColumns lay1 hT (show MoAt (Mu [(116, pm_upd (pm_ct M 116) 0 0)] M) T from hM0)) ?_
  rintro _ N2 ⟨rfl, hN2⟩
  rw [hN2]
  show Wp _ 231 13 [(2, ((116 : Nat) : Int)), (0, 1), (9, 0), (9, 0), (9, 0)] [(0, ((2 ^ tC T - 1 : Nat) : Int))] (Mu [(116, pm_upd (pm_ct M 116) 0 0)] M) _ _ _
  refine g_goto (t := 20) lk_231_13 rfl ?_
  refine g_top (z := ((2 ^ tC T - 1 : Nat) : Int)) (z' := (e : Int)) ((by rw [ew, ← he])) ?_
  refine g_istore_n (ls' := [(2, ((116 : Nat) : Int)), (0, 1), (0, (e : Int)), (9, 0), (9, 0)]) lk_231_20 rfl rfl ?_
  refine g_aload_n lk_231_21 rfl ?_
  refine g_getfield lk_231_22 rfl (lay1.on (by decide) rfl) (v := ((141 : Nat) : Int)) (lay1.rf rfl) ?_
  refine g_iconst lk_231_25 ?_
  refine g_iconst lk_231_26 ?_
  have lay3 : Lay (Mu [(116, pm_upd (pm_ct M 116) 0 0), (141, pm_upd (pm_ct M 141) 0 0)] M) := lay1.muA (l := [(116, pm_upd (pm_ct M 116) 0 0)]) (a := 141) (f := pm_upd (pm_ct M 141) 0 0) rfl rfl
  refine m_iastore (u := [(116, pm_upd (pm_ct M 116) 0 0)]) (u' := [(116, pm_upd (pm_ct M 116) 0 0), (141, pm_upd (pm_ct M 141) 0 0)]) (M := M) lk_231_27 (lay1.ay (by decide) rfl) (by omega) (j := 0) (by omega) rfl ?_
  refine g_iconst lk_231_28 ?_
  refine g_istore_n (ls' := [(2, ((116 : Nat) : Int)), (0, 1), (0, (e : Int)), (0, 1), (9, 0)]) lk_231_29 rfl rfl ?_
  refine outer e 1 _ _ (by omega) (by omega) lay3 (MF.mu _ _ rfl (fun k hk => upd_ne (by intro q; rw [q] at hk; exact hk (by decide)))) (fun q hq => ?_)
  rw [Mu_ct, show q = 0 by omega, GG_0]
  show pm_upd (pm_ct M 141) 0 0 0 = _
  rw [pm_upd_eq]; rfl
