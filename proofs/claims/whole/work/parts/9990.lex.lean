/-! ===== tokens of a text ===== -/
def kdc (c : Nat) : Nat := if 97 ≤ c ∧ c ≤ 122 then 1 else if (48 ≤ c ∧ c ≤ 57) ∨ c = 46 then 2 else if c = 59 then 3 else 4
theorem kdc_r (c : Nat) : 1 ≤ kdc c ∧ kdc c ≤ 4 := by unfold kdc; split; omega; split; omega; split <;> omega
def skp (ch : Nat → Nat) (n : Nat) : Nat → Nat → Nat
  | 0, p => p
  | k + 1, p => if p < n ∧ (ch p = 32 ∨ ch p = 10) then skp ch n k (p + 1) else p
def spn (ch : Nat → Nat) (n K : Nat) : Nat → Nat → Nat
  | 0, p => p
  | k + 1, p => if p < n ∧ kdc (ch p) = K then spn ch n K k (p + 1) else p
/-- kind (0 end, 1 word, 2 run, 3 stop, 4 none such), first byte, the byte behind -/
abbrev Tok : Type := Nat × Nat × Nat
def lxA (ch : Nat → Nat) (n a : Nat) : Tok := if n ≤ a then (0, a, a) else if kdc (ch a) = 3 ∨ kdc (ch a) = 4 then (kdc (ch a), a, a + 1) else if 6 < spn ch n (kdc (ch a)) 500 a - a then (4, a, spn ch n (kdc (ch a)) 500 a) else (kdc (ch a), a, spn ch n (kdc (ch a)) 500 a)
def lxt (ch : Nat → Nat) (n p : Nat) : Tok := lxA ch n (skp ch n 500 p)
theorem skp_le (ch : Nat → Nat) (n : Nat) : ∀ k p, p ≤ skp ch n k p ∧ (p ≤ n → skp ch n k p ≤ n)
  | 0, p => ⟨Nat.le_refl _, fun h => h⟩
  | k + 1, p => by
    show p ≤ (if p < n ∧ (ch p = 32 ∨ ch p = 10) then skp ch n k (p + 1) else p) ∧ (p ≤ n → (if p < n ∧ (ch p = 32 ∨ ch p = 10) then skp ch n k (p + 1) else p) ≤ n)
    have := skp_le ch n k (p + 1)
    split
    · rename_i h; exact ⟨by omega, fun _ => this.2 (by omega)⟩
    · exact ⟨Nat.le_refl _, fun h => h⟩
theorem spn_le (ch : Nat → Nat) (n K : Nat) : ∀ k p, p ≤ spn ch n K k p ∧ (p ≤ n → spn ch n K k p ≤ n)
  | 0, p => ⟨Nat.le_refl _, fun h => h⟩
  | k + 1, p => by
    show p ≤ (if p < n ∧ kdc (ch p) = K then spn ch n K k (p + 1) else p) ∧ (p ≤ n → (if p < n ∧ kdc (ch p) = K then spn ch n K k (p + 1) else p) ≤ n)
    have := spn_le ch n K k (p + 1)
    split
    · rename_i h; exact ⟨by omega, fun _ => this.2 (by omega)⟩
    · exact ⟨Nat.le_refl _, fun h => h⟩
theorem spn_k (ch : Nat → Nat) (n K : Nat) : ∀ k p i, p ≤ i → i < spn ch n K k p → kdc (ch i) = K
  | 0, p, i, h1, h2 => by have h' : i < p := h2; omega
  | k + 1, p, i, h1, h2 => by
    replace h2 : i < (if p < n ∧ kdc (ch p) = K then spn ch n K k (p + 1) else p) := h2
    by_cases e : p < n ∧ kdc (ch p) = K
    · rw [if_pos e] at h2
      by_cases q : i = p
      · rw [q]; exact e.2
      · exact spn_k ch n K k (p + 1) i (by omega) h2
    · rw [if_neg e] at h2; omega
/-- what a token is like -/
theorem lx_ok {ch : Nat → Nat} {n p : Nat} (hp : p ≤ n) (hn : n ≤ 500) {t : Tok} (ht : t = lxt ch n p) : t.1 ≤ 4 ∧ p ≤ t.2.1 ∧ t.2.1 ≤ t.2.2 ∧ t.2.2 ≤ n ∧ (t.1 = 0 → t.2.1 = n ∧ t.2.2 = n) ∧ (t.1 ≠ 0 → t.2.1 < t.2.2) ∧ (t.1 = 1 ∨ t.1 = 2 → t.2.2 ≤ t.2.1 + 6 ∧ ∀ i, t.2.1 ≤ i → i < t.2.2 → kdc (ch i) = t.1) := by
  have a := skp_le ch n 500 p
  unfold lxt at ht
  obtain ⟨q, hq⟩ : ∃ q, q = skp ch n 500 p := ⟨_, rfl⟩
  rw [← hq] at ht a
  unfold lxA at ht
  by_cases e1 : n ≤ q
  · rw [if_pos e1] at ht
    rw [ht]
    exact ⟨by show 0 ≤ 4; omega, a.1, Nat.le_refl _, a.2 hp, fun _ => ⟨by have := a.2 hp; show q = n; omega, by have := a.2 hp; show q = n; omega⟩, fun h => absurd rfl h, fun h => by rcases h with h | h <;> cases h⟩
  rw [if_neg e1] at ht
  have kr := kdc_r (ch q)
  by_cases e2 : kdc (ch q) = 3 ∨ kdc (ch q) = 4
  · rw [if_pos e2] at ht
    rw [ht]
    refine ⟨kr.2, a.1, Nat.le_succ _, by show q + 1 ≤ n; omega, fun h => by have h' : kdc (ch q) = 0 := h; omega, fun _ => Nat.lt_succ_self _, fun h => by have h' : kdc (ch q) = 1 ∨ kdc (ch q) = 2 := h; omega⟩
  rw [if_neg e2] at ht
  have s := spn_le ch n (kdc (ch q)) 500 q
  have sk := spn_k ch n (kdc (ch q)) 500 q
  have s1 : q < spn ch n (kdc (ch q)) 500 q := by
    show q < (if q < n ∧ kdc (ch q) = kdc (ch q) then spn ch n (kdc (ch q)) 499 (q + 1) else q)
    rw [if_pos ⟨by omega, rfl⟩]
    have := (spn_le ch n (kdc (ch q)) 499 (q + 1)).1
    omega
  obtain ⟨e, he⟩ : ∃ e, e = spn ch n (kdc (ch q)) 500 q := ⟨_, rfl⟩
  rw [← he] at ht s sk s1
  by_cases e3 : 6 < e - q
  · rw [if_pos e3] at ht
    rw [ht]
    refine ⟨by show 4 ≤ 4; omega, a.1, s.1, by show e ≤ n; exact s.2 (by omega), fun h => ?_, fun _ => s1, fun h => ?_⟩
    · have h' : 4 = 0 := h
      omega
    · have h' : 4 = 1 ∨ 4 = 2 := h
      omega
  · rw [if_neg e3] at ht
    rw [ht]
    exact ⟨kr.2, a.1, s.1, s.2 (by omega), fun h => by have h' : kdc (ch q) = 0 := h; omega, fun _ => s1, fun _ => ⟨by show e ≤ q + 6; omega, fun i h1 h2 => sk i h1 h2⟩⟩
/-- letters of a word, the last one first -/
def lw' (ch : Nat → Nat) (a : Nat) : Nat → List Nat
  | 0 => []
  | k + 1 => (ch (a + k) - 96) :: lw' ch a k
def nr (b : Nat) : List Nat → Nat
  | [] => 0
  | x :: l => x + b * nr b l
def sgn (c : Nat) : Int := if c < 128 then (c : Int) else (c : Int) - 256
/-- the tape while a text is read -/
def TcX (M : pm_M) (n : Nat) (ch : Nat → Nat) : Prop := n ≤ 500 ∧ pm_ct M 2 4 = (n : Int) ∧ ∀ i, i < n → ch i < 256 ∧ pm_ct M 3 i = sgn (ch i)
def TcM (M : pm_M) (n : Nat) (ch : Nat → Nat) : Prop := n ≤ 500 ∧ pm_ct M 116 24 = (n : Int) ∧ ∀ i, i < n → ch i < 256 ∧ pm_ct M 132 i = (ch i : Int)
def TkX (M : pm_M) (ch : Nat → Nat) (t : Tok) : Prop := pm_ct M 2 10 = (t.1 : Int) ∧ pm_ct M 2 11 = (t.2.1 : Int) ∧ pm_ct M 2 12 = ((t.2.2 - t.2.1 : Nat) : Int) ∧ pm_ct M 2 9 = (t.2.2 : Int) ∧ (t.1 = 1 → pm_ct M 2 13 = ((nr 27 (lw' ch t.2.1 (t.2.2 - t.2.1)) : Nat) : Int))
def TkM (M : pm_M) (ch : Nat → Nat) (t : Tok) : Prop := pm_ct M 116 27 = (t.1 : Int) ∧ pm_ct M 116 25 = (t.2.1 : Int) ∧ pm_ct M 116 26 = (t.2.2 : Int) ∧ (t.1 = 1 → pm_ct M 116 28 = ((nr 32 (lw' ch t.2.1 (t.2.2 - t.2.1)) : Nat) : Int))
/-- only the token of the reader has changed -/
def RdF (M N : pm_M) : Prop := Fr [2] M N ∧ ∀ k, k ∉ [9, 10, 11, 12, 13] → pm_ct N 2 k = pm_ct M 2 k
theorem RdF.refl (M : pm_M) : RdF M M := ⟨Fr.refl _ _, fun _ _ => rfl⟩
theorem RdF.trans {M N K : pm_M} (h : RdF M N) (k : RdF N K) : RdF M K := ⟨h.1.trans k.1, fun j hj => (k.2 j hj).trans (h.2 j hj)⟩
theorem TcX.rd {M N : pm_M} {n : Nat} {ch : Nat → Nat} (h : TcX M n ch) (k : RdF M N) : TcX N n ch := by
  unfold TcX at h ⊢
  rw [k.2 4 (by decide), k.1.ct (a := 3) (by decide)]; exact h
theorem c_Reader_signAt {d mc ms : Nat} {M : pm_M} (lay : Lay M) {n : Nat} {ch : Nat → Nat} (hM : TcX M n ch) {a : Nat} (ha : pm_ct M 2 11 = (a : Int)) (a5 : a ≤ 500) {i : Nat} (hi : i ≤ 500) :
    pm_E d 69 [(2, ((2 : Nat) : Int)), (0, (i : Int))] M mc ms (fun ρ M' => ρ = some (0, if a + i < n then sgn (ch (a + i)) else 0) ∧ M' = M) := by
  obtain ⟨n5, h4, ht⟩ := hM
  obtain ⟨j, hj⟩ : ∃ j, j = a + i := ⟨_, rfl⟩
  have ej : (a : Int) + (i : Int) = (j : Int) := by omega
  rw [← hj]
  show Wp d 69 0 [(2, ((2 : Nat) : Int)), (0, (i : Int)), (9, 0)] [] M mc ms _
  by_cases e : j < n
  · have rd := (ht j e).2
    rw [if_pos e]
    obtain ⟨z, hz⟩ : ∃ z, z = sgn (ch j) := ⟨_, rfl⟩
    rw [← hz] at rd ⊢
    refine g_aload_n lk_69_0 rfl ?_
    refine m_getfield (u := []) (M := M) lk_69_1 rfl (lay.on (by decide) rfl) (v := (a : Int)) ha ?_
    refine g_iload_n lk_69_4 rfl ?_
    refine g_iadd lk_69_5 ?_
    refine g_top (z := ((a : Int) + (i : Int))) (z' := (j : Int)) (ej) ?_
    refine g_istore_n (ls' := [(2, ((2 : Nat) : Int)), (0, (i : Int)), (0, (j : Int))]) lk_69_6 rfl rfl ?_
    refine g_iload_n lk_69_7 rfl ?_
    refine g_if (t := 35) lk_69_8 rfl (by first | (unfold pm_inI; omega) | exact pm_and_in _ _ | exact pm_shr_in _ _ | exact pm_or_in _ _ | exact pm_xor_in _ _ | exact pm_shl_in _ _ | exact pm_cmp_in _ _ | exact pm_b8_in _ | (unfold pm_inI; split <;> omega)) (fun h1 => ?_) (fun h1 => ?_)
    · replace h1 : (j : Int) < 0 := h1
      omega
    · replace h1 : ¬ ((j : Int) < 0) := h1
      refine g_iload_n lk_69_11 rfl ?_
      refine g_aload_n lk_69_12 rfl ?_
      refine m_getfield (u := []) (M := M) lk_69_13 rfl (lay.on (by decide) rfl) (v := (n : Int)) h4 ?_
      refine g_icmp (t := 35) lk_69_16 rfl (by first | (unfold pm_inI; omega) | exact pm_and_in _ _ | exact pm_shr_in _ _ | exact pm_or_in _ _ | exact pm_xor_in _ _ | exact pm_shl_in _ _ | exact pm_cmp_in _ _ | exact pm_b8_in _ | (unfold pm_inI; split <;> omega)) (by first | (unfold pm_inI; omega) | exact pm_and_in _ _ | exact pm_shr_in _ _ | exact pm_or_in _ _ | exact pm_xor_in _ _ | exact pm_shl_in _ _ | exact pm_cmp_in _ _ | exact pm_b8_in _ | (unfold pm_inI; split <;> omega)) (fun h2 => ?_) (fun h2 => ?_)
      · replace h2 : (n : Int) ≤ (j : Int) := h2
        omega
      · replace h2 : ¬ ((n : Int) ≤ (j : Int)) := h2
        refine g_iload_n lk_69_19 rfl ?_
        refine g_sipush lk_69_20 ?_
        refine g_icmp (t := 35) lk_69_23 rfl (by first | (unfold pm_inI; omega) | exact pm_and_in _ _ | exact pm_shr_in _ _ | exact pm_or_in _ _ | exact pm_xor_in _ _ | exact pm_shl_in _ _ | exact pm_cmp_in _ _ | exact pm_b8_in _ | (unfold pm_inI; split <;> omega)) (by first | (unfold pm_inI; omega) | exact pm_and_in _ _ | exact pm_shr_in _ _ | exact pm_or_in _ _ | exact pm_xor_in _ _ | exact pm_shl_in _ _ | exact pm_cmp_in _ _ | exact pm_b8_in _ | (unfold pm_inI; split <;> omega)) (fun h3 => ?_) (fun h3 => ?_)
        · replace h3 : 500 ≤ (j : Int) := h3
          omega
        · replace h3 : ¬ (500 ≤ (j : Int)) := h3
          refine g_aload_n lk_69_26 rfl ?_
          refine g_getfield lk_69_27 rfl (lay.on (by decide) rfl) (v := ((3 : Nat) : Int)) (lay.rf rfl) ?_
          refine g_iload_n lk_69_30 rfl ?_
          refine m_baload (u := []) (M := M) lk_69_31 (lay.ay (by decide) rfl) (by omega) (j := j) (by omega) (v := z) rd ?_
          refine g_goto (t := 36) lk_69_32 rfl ?_
          refine g_ireturn lk_69_36 (fun h => absurd h (by decide)) ?_
          exact ⟨rfl, rfl⟩
  · rw [if_neg e]
    refine g_aload_n lk_69_0 rfl ?_
    refine m_getfield (u := []) (M := M) lk_69_1 rfl (lay.on (by decide) rfl) (v := (a : Int)) ha ?_
    refine g_iload_n lk_69_4 rfl ?_
    refine g_iadd lk_69_5 ?_
    refine g_top (z := ((a : Int) + (i : Int))) (z' := (j : Int)) (ej) ?_
    refine g_istore_n (ls' := [(2, ((2 : Nat) : Int)), (0, (i : Int)), (0, (j : Int))]) lk_69_6 rfl rfl ?_
    refine g_iload_n lk_69_7 rfl ?_
    refine g_if (t := 35) lk_69_8 rfl (by first | (unfold pm_inI; omega) | exact pm_and_in _ _ | exact pm_shr_in _ _ | exact pm_or_in _ _ | exact pm_xor_in _ _ | exact pm_shl_in _ _ | exact pm_cmp_in _ _ | exact pm_b8_in _ | (unfold pm_inI; split <;> omega)) (fun h1 => ?_) (fun h1 => ?_)
    · replace h1 : (j : Int) < 0 := h1
      refine g_iconst lk_69_35 ?_
      refine g_ireturn lk_69_36 (fun h => absurd h (by decide)) ?_
      exact ⟨rfl, rfl⟩
    · replace h1 : ¬ ((j : Int) < 0) := h1
      refine g_iload_n lk_69_11 rfl ?_
      refine g_aload_n lk_69_12 rfl ?_
      refine m_getfield (u := []) (M := M) lk_69_13 rfl (lay.on (by decide) rfl) (v := (n : Int)) h4 ?_
      refine g_icmp (t := 35) lk_69_16 rfl (by first | (unfold pm_inI; omega) | exact pm_and_in _ _ | exact pm_shr_in _ _ | exact pm_or_in _ _ | exact pm_xor_in _ _ | exact pm_shl_in _ _ | exact pm_cmp_in _ _ | exact pm_b8_in _ | (unfold pm_inI; split <;> omega)) (by first | (unfold pm_inI; omega) | exact pm_and_in _ _ | exact pm_shr_in _ _ | exact pm_or_in _ _ | exact pm_xor_in _ _ | exact pm_shl_in _ _ | exact pm_cmp_in _ _ | exact pm_b8_in _ | (unfold pm_inI; split <;> omega)) (fun h2 => ?_) (fun h2 => ?_)
      · replace h2 : (n : Int) ≤ (j : Int) := h2
        refine g_iconst lk_69_35 ?_
        refine g_ireturn lk_69_36 (fun h => absurd h (by decide)) ?_
        exact ⟨rfl, rfl⟩
      · replace h2 : ¬ ((n : Int) ≤ (j : Int)) := h2
        refine g_iload_n lk_69_19 rfl ?_
        refine g_sipush lk_69_20 ?_
        refine g_icmp (t := 35) lk_69_23 rfl (by first | (unfold pm_inI; omega) | exact pm_and_in _ _ | exact pm_shr_in _ _ | exact pm_or_in _ _ | exact pm_xor_in _ _ | exact pm_shl_in _ _ | exact pm_cmp_in _ _ | exact pm_b8_in _ | (unfold pm_inI; split <;> omega)) (by first | (unfold pm_inI; omega) | exact pm_and_in _ _ | exact pm_shr_in _ _ | exact pm_or_in _ _ | exact pm_xor_in _ _ | exact pm_shl_in _ _ | exact pm_cmp_in _ _ | exact pm_b8_in _ | (unfold pm_inI; split <;> omega)) (fun h3 => ?_) (fun h3 => ?_)
        · replace h3 : 500 ≤ (j : Int) := h3
          refine g_iconst lk_69_35 ?_
          refine g_ireturn lk_69_36 (fun h => absurd h (by decide)) ?_
          exact ⟨rfl, rfl⟩
        · replace h3 : ¬ (500 ≤ (j : Int)) := h3
          omega
theorem sgn_r {c : Nat} (h : c < 256) : sgn c = (c : Int) ∧ c < 128 ∨ sgn c = (c : Int) - 256 ∧ 128 ≤ c := by
  unfold sgn
  by_cases e : c < 128
  · rw [if_pos e]; exact Or.inl ⟨rfl, e⟩
  · rw [if_neg e]; exact Or.inr ⟨rfl, by omega⟩
theorem c_Reader_kindOf {d mc ms : Nat} {M : pm_M} {c : Nat} (h : c < 256) :
    pm_E d 71 [(0, sgn c)] M mc ms (fun ρ M' => ρ = some (0, (kdc c : Int)) ∧ M' = M) := by
  have hs := sgn_r h
  obtain ⟨z, hz⟩ : ∃ z, z = sgn c := ⟨_, rfl⟩
  rw [← hz] at hs ⊢
  have k1 : 97 ≤ c ∧ c ≤ 122 → kdc c = 1 := fun q => by unfold kdc; rw [if_pos q]
  have k2 : ¬ (97 ≤ c ∧ c ≤ 122) → ((48 ≤ c ∧ c ≤ 57) ∨ c = 46) → kdc c = 2 := fun q1 q2 => by unfold kdc; rw [if_neg q1, if_pos q2]
  have k3 : ¬ (97 ≤ c ∧ c ≤ 122) → ¬ ((48 ≤ c ∧ c ≤ 57) ∨ c = 46) → c = 59 → kdc c = 3 := fun q1 q2 q3 => by unfold kdc; rw [if_neg q1, if_neg q2, if_pos q3]
  have k4 : ¬ (97 ≤ c ∧ c ≤ 122) → ¬ ((48 ≤ c ∧ c ≤ 57) ∨ c = 46) → ¬ c = 59 → kdc c = 4 := fun q1 q2 q3 => by unfold kdc; rw [if_neg q1, if_neg q2, if_neg q3]
  show Wp d 71 0 [(0, z)] [] M mc ms _
  refine g_iload_n lk_71_0 rfl ?_
  refine g_bipush lk_71_1 ?_
  refine g_icmp (t := 14) lk_71_3 rfl (by first | (unfold pm_inI; omega) | exact pm_and_in _ _ | exact pm_shr_in _ _ | exact pm_or_in _ _ | exact pm_xor_in _ _ | exact pm_shl_in _ _ | exact pm_cmp_in _ _ | exact pm_b8_in _ | (unfold pm_inI; split <;> omega)) (by first | (unfold pm_inI; omega) | exact pm_and_in _ _ | exact pm_shr_in _ _ | exact pm_or_in _ _ | exact pm_xor_in _ _ | exact pm_shl_in _ _ | exact pm_cmp_in _ _ | exact pm_b8_in _ | (unfold pm_inI; split <;> omega)) (fun h1 => ?_) (fun h1 => ?_)
  · replace h1 : z < 97 := h1
    refine g_iload_n lk_71_14 rfl ?_
    refine g_bipush lk_71_15 ?_
    refine g_icmp (t := 26) lk_71_17 rfl (by first | (unfold pm_inI; omega) | exact pm_and_in _ _ | exact pm_shr_in _ _ | exact pm_or_in _ _ | exact pm_xor_in _ _ | exact pm_shl_in _ _ | exact pm_cmp_in _ _ | exact pm_b8_in _ | (unfold pm_inI; split <;> omega)) (by first | (unfold pm_inI; omega) | exact pm_and_in _ _ | exact pm_shr_in _ _ | exact pm_or_in _ _ | exact pm_xor_in _ _ | exact pm_shl_in _ _ | exact pm_cmp_in _ _ | exact pm_b8_in _ | (unfold pm_inI; split <;> omega)) (fun h2 => ?_) (fun h2 => ?_)
    · replace h2 : z < 48 := h2
      refine g_iload_n lk_71_26 rfl ?_
      refine g_bipush lk_71_27 ?_
      refine g_icmp (t := 34) lk_71_29 rfl (by first | (unfold pm_inI; omega) | exact pm_and_in _ _ | exact pm_shr_in _ _ | exact pm_or_in _ _ | exact pm_xor_in _ _ | exact pm_shl_in _ _ | exact pm_cmp_in _ _ | exact pm_b8_in _ | (unfold pm_inI; split <;> omega)) (by first | (unfold pm_inI; omega) | exact pm_and_in _ _ | exact pm_shr_in _ _ | exact pm_or_in _ _ | exact pm_xor_in _ _ | exact pm_shl_in _ _ | exact pm_cmp_in _ _ | exact pm_b8_in _ | (unfold pm_inI; split <;> omega)) (fun h3 => ?_) (fun h3 => ?_)
      · replace h3 : ¬ z = 46 := h3
        refine g_iload_n lk_71_34 rfl ?_
        refine g_bipush lk_71_35 ?_
        refine g_icmp (t := 44) lk_71_37 rfl (by first | (unfold pm_inI; omega) | exact pm_and_in _ _ | exact pm_shr_in _ _ | exact pm_or_in _ _ | exact pm_xor_in _ _ | exact pm_shl_in _ _ | exact pm_cmp_in _ _ | exact pm_b8_in _ | (unfold pm_inI; split <;> omega)) (by first | (unfold pm_inI; omega) | exact pm_and_in _ _ | exact pm_shr_in _ _ | exact pm_or_in _ _ | exact pm_xor_in _ _ | exact pm_shl_in _ _ | exact pm_cmp_in _ _ | exact pm_b8_in _ | (unfold pm_inI; split <;> omega)) (fun h4 => ?_) (fun h4 => ?_)
        · replace h4 : ¬ z = 59 := h4
          refine g_iconst lk_71_44 ?_
          refine g_ireturn lk_71_45 (fun h => absurd h (by decide)) ?_
          refine ⟨?_, rfl⟩
          first
            | rw [k1 (by omega)]; rfl
            | rw [k2 (by omega) (by omega)]; rfl
            | rw [k3 (by omega) (by omega) (by omega)]; rfl
            | rw [k4 (by omega) (by omega) (by omega)]; rfl
            | (exfalso; omega)
        · replace h4 : ¬ (¬ z = 59) := h4
          refine g_iconst lk_71_40 ?_
          refine g_goto (t := 45) lk_71_41 rfl ?_
          refine g_ireturn lk_71_45 (fun h => absurd h (by decide)) ?_
          refine ⟨?_, rfl⟩
          first
            | rw [k1 (by omega)]; rfl
            | rw [k2 (by omega) (by omega)]; rfl
            | rw [k3 (by omega) (by omega) (by omega)]; rfl
            | rw [k4 (by omega) (by omega) (by omega)]; rfl
            | (exfalso; omega)
      · replace h3 : ¬ (¬ z = 46) := h3
        refine g_iconst lk_71_32 ?_
        refine g_ireturn lk_71_33 (fun h => absurd h (by decide)) ?_
        refine ⟨?_, rfl⟩
        first
          | rw [k1 (by omega)]; rfl
          | rw [k2 (by omega) (by omega)]; rfl
          | rw [k3 (by omega) (by omega) (by omega)]; rfl
          | rw [k4 (by omega) (by omega) (by omega)]; rfl
          | (exfalso; omega)
    · replace h2 : ¬ (z < 48) := h2
      refine g_iload_n lk_71_20 rfl ?_
      refine g_bipush lk_71_21 ?_
      refine g_icmp (t := 32) lk_71_23 rfl (by first | (unfold pm_inI; omega) | exact pm_and_in _ _ | exact pm_shr_in _ _ | exact pm_or_in _ _ | exact pm_xor_in _ _ | exact pm_shl_in _ _ | exact pm_cmp_in _ _ | exact pm_b8_in _ | (unfold pm_inI; split <;> omega)) (by first | (unfold pm_inI; omega) | exact pm_and_in _ _ | exact pm_shr_in _ _ | exact pm_or_in _ _ | exact pm_xor_in _ _ | exact pm_shl_in _ _ | exact pm_cmp_in _ _ | exact pm_b8_in _ | (unfold pm_inI; split <;> omega)) (fun h5 => ?_) (fun h5 => ?_)
      · replace h5 : z ≤ 57 := h5
        refine g_iconst lk_71_32 ?_
        refine g_ireturn lk_71_33 (fun h => absurd h (by decide)) ?_
        refine ⟨?_, rfl⟩
        first
          | rw [k1 (by omega)]; rfl
          | rw [k2 (by omega) (by omega)]; rfl
          | rw [k3 (by omega) (by omega) (by omega)]; rfl
          | rw [k4 (by omega) (by omega) (by omega)]; rfl
          | (exfalso; omega)
      · replace h5 : ¬ (z ≤ 57) := h5
        refine g_iload_n lk_71_26 rfl ?_
        refine g_bipush lk_71_27 ?_
        refine g_icmp (t := 34) lk_71_29 rfl (by first | (unfold pm_inI; omega) | exact pm_and_in _ _ | exact pm_shr_in _ _ | exact pm_or_in _ _ | exact pm_xor_in _ _ | exact pm_shl_in _ _ | exact pm_cmp_in _ _ | exact pm_b8_in _ | (unfold pm_inI; split <;> omega)) (by first | (unfold pm_inI; omega) | exact pm_and_in _ _ | exact pm_shr_in _ _ | exact pm_or_in _ _ | exact pm_xor_in _ _ | exact pm_shl_in _ _ | exact pm_cmp_in _ _ | exact pm_b8_in _ | (unfold pm_inI; split <;> omega)) (fun h6 => ?_) (fun h6 => ?_)
        · replace h6 : ¬ z = 46 := h6
          refine g_iload_n lk_71_34 rfl ?_
          refine g_bipush lk_71_35 ?_
          refine g_icmp (t := 44) lk_71_37 rfl (by first | (unfold pm_inI; omega) | exact pm_and_in _ _ | exact pm_shr_in _ _ | exact pm_or_in _ _ | exact pm_xor_in _ _ | exact pm_shl_in _ _ | exact pm_cmp_in _ _ | exact pm_b8_in _ | (unfold pm_inI; split <;> omega)) (by first | (unfold pm_inI; omega) | exact pm_and_in _ _ | exact pm_shr_in _ _ | exact pm_or_in _ _ | exact pm_xor_in _ _ | exact pm_shl_in _ _ | exact pm_cmp_in _ _ | exact pm_b8_in _ | (unfold pm_inI; split <;> omega)) (fun h7 => ?_) (fun h7 => ?_)
          · replace h7 : ¬ z = 59 := h7
            refine g_iconst lk_71_44 ?_
            refine g_ireturn lk_71_45 (fun h => absurd h (by decide)) ?_
            refine ⟨?_, rfl⟩
            first
              | rw [k1 (by omega)]; rfl
              | rw [k2 (by omega) (by omega)]; rfl
              | rw [k3 (by omega) (by omega) (by omega)]; rfl
              | rw [k4 (by omega) (by omega) (by omega)]; rfl
              | (exfalso; omega)
          · replace h7 : ¬ (¬ z = 59) := h7
            refine g_iconst lk_71_40 ?_
            refine g_goto (t := 45) lk_71_41 rfl ?_
            refine g_ireturn lk_71_45 (fun h => absurd h (by decide)) ?_
            refine ⟨?_, rfl⟩
            first
              | rw [k1 (by omega)]; rfl
              | rw [k2 (by omega) (by omega)]; rfl
              | rw [k3 (by omega) (by omega) (by omega)]; rfl
              | rw [k4 (by omega) (by omega) (by omega)]; rfl
              | (exfalso; omega)
        · replace h6 : ¬ (¬ z = 46) := h6
          refine g_iconst lk_71_32 ?_
          refine g_ireturn lk_71_33 (fun h => absurd h (by decide)) ?_
          refine ⟨?_, rfl⟩
          first
            | rw [k1 (by omega)]; rfl
            | rw [k2 (by omega) (by omega)]; rfl
            | rw [k3 (by omega) (by omega) (by omega)]; rfl
            | rw [k4 (by omega) (by omega) (by omega)]; rfl
            | (exfalso; omega)
  · replace h1 : ¬ (z < 97) := h1
    refine g_iload_n lk_71_6 rfl ?_
    refine g_bipush lk_71_7 ?_
    refine g_icmp (t := 14) lk_71_9 rfl (by first | (unfold pm_inI; omega) | exact pm_and_in _ _ | exact pm_shr_in _ _ | exact pm_or_in _ _ | exact pm_xor_in _ _ | exact pm_shl_in _ _ | exact pm_cmp_in _ _ | exact pm_b8_in _ | (unfold pm_inI; split <;> omega)) (by first | (unfold pm_inI; omega) | exact pm_and_in _ _ | exact pm_shr_in _ _ | exact pm_or_in _ _ | exact pm_xor_in _ _ | exact pm_shl_in _ _ | exact pm_cmp_in _ _ | exact pm_b8_in _ | (unfold pm_inI; split <;> omega)) (fun h8 => ?_) (fun h8 => ?_)
    · replace h8 : 122 < z := h8
      refine g_iload_n lk_71_14 rfl ?_
      refine g_bipush lk_71_15 ?_
      refine g_icmp (t := 26) lk_71_17 rfl (by first | (unfold pm_inI; omega) | exact pm_and_in _ _ | exact pm_shr_in _ _ | exact pm_or_in _ _ | exact pm_xor_in _ _ | exact pm_shl_in _ _ | exact pm_cmp_in _ _ | exact pm_b8_in _ | (unfold pm_inI; split <;> omega)) (by first | (unfold pm_inI; omega) | exact pm_and_in _ _ | exact pm_shr_in _ _ | exact pm_or_in _ _ | exact pm_xor_in _ _ | exact pm_shl_in _ _ | exact pm_cmp_in _ _ | exact pm_b8_in _ | (unfold pm_inI; split <;> omega)) (fun h9 => ?_) (fun h9 => ?_)
      · replace h9 : z < 48 := h9
        refine g_iload_n lk_71_26 rfl ?_
        refine g_bipush lk_71_27 ?_
        refine g_icmp (t := 34) lk_71_29 rfl (by first | (unfold pm_inI; omega) | exact pm_and_in _ _ | exact pm_shr_in _ _ | exact pm_or_in _ _ | exact pm_xor_in _ _ | exact pm_shl_in _ _ | exact pm_cmp_in _ _ | exact pm_b8_in _ | (unfold pm_inI; split <;> omega)) (by first | (unfold pm_inI; omega) | exact pm_and_in _ _ | exact pm_shr_in _ _ | exact pm_or_in _ _ | exact pm_xor_in _ _ | exact pm_shl_in _ _ | exact pm_cmp_in _ _ | exact pm_b8_in _ | (unfold pm_inI; split <;> omega)) (fun h10 => ?_) (fun h10 => ?_)
        · replace h10 : ¬ z = 46 := h10
          refine g_iload_n lk_71_34 rfl ?_
          refine g_bipush lk_71_35 ?_
          refine g_icmp (t := 44) lk_71_37 rfl (by first | (unfold pm_inI; omega) | exact pm_and_in _ _ | exact pm_shr_in _ _ | exact pm_or_in _ _ | exact pm_xor_in _ _ | exact pm_shl_in _ _ | exact pm_cmp_in _ _ | exact pm_b8_in _ | (unfold pm_inI; split <;> omega)) (by first | (unfold pm_inI; omega) | exact pm_and_in _ _ | exact pm_shr_in _ _ | exact pm_or_in _ _ | exact pm_xor_in _ _ | exact pm_shl_in _ _ | exact pm_cmp_in _ _ | exact pm_b8_in _ | (unfold pm_inI; split <;> omega)) (fun h11 => ?_) (fun h11 => ?_)
          · replace h11 : ¬ z = 59 := h11
            refine g_iconst lk_71_44 ?_
            refine g_ireturn lk_71_45 (fun h => absurd h (by decide)) ?_
            refine ⟨?_, rfl⟩
            first
              | rw [k1 (by omega)]; rfl
              | rw [k2 (by omega) (by omega)]; rfl
              | rw [k3 (by omega) (by omega) (by omega)]; rfl
              | rw [k4 (by omega) (by omega) (by omega)]; rfl
              | (exfalso; omega)
          · replace h11 : ¬ (¬ z = 59) := h11
            refine g_iconst lk_71_40 ?_
            refine g_goto (t := 45) lk_71_41 rfl ?_
            refine g_ireturn lk_71_45 (fun h => absurd h (by decide)) ?_
            refine ⟨?_, rfl⟩
            first
              | rw [k1 (by omega)]; rfl
              | rw [k2 (by omega) (by omega)]; rfl
              | rw [k3 (by omega) (by omega) (by omega)]; rfl
              | rw [k4 (by omega) (by omega) (by omega)]; rfl
              | (exfalso; omega)
        · replace h10 : ¬ (¬ z = 46) := h10
          refine g_iconst lk_71_32 ?_
          refine g_ireturn lk_71_33 (fun h => absurd h (by decide)) ?_
          refine ⟨?_, rfl⟩
          first
            | rw [k1 (by omega)]; rfl
            | rw [k2 (by omega) (by omega)]; rfl
            | rw [k3 (by omega) (by omega) (by omega)]; rfl
            | rw [k4 (by omega) (by omega) (by omega)]; rfl
            | (exfalso; omega)
      · replace h9 : ¬ (z < 48) := h9
        refine g_iload_n lk_71_20 rfl ?_
        refine g_bipush lk_71_21 ?_
        refine g_icmp (t := 32) lk_71_23 rfl (by first | (unfold pm_inI; omega) | exact pm_and_in _ _ | exact pm_shr_in _ _ | exact pm_or_in _ _ | exact pm_xor_in _ _ | exact pm_shl_in _ _ | exact pm_cmp_in _ _ | exact pm_b8_in _ | (unfold pm_inI; split <;> omega)) (by first | (unfold pm_inI; omega) | exact pm_and_in _ _ | exact pm_shr_in _ _ | exact pm_or_in _ _ | exact pm_xor_in _ _ | exact pm_shl_in _ _ | exact pm_cmp_in _ _ | exact pm_b8_in _ | (unfold pm_inI; split <;> omega)) (fun h12 => ?_) (fun h12 => ?_)
        · replace h12 : z ≤ 57 := h12
          refine g_iconst lk_71_32 ?_
          refine g_ireturn lk_71_33 (fun h => absurd h (by decide)) ?_
          refine ⟨?_, rfl⟩
          first
            | rw [k1 (by omega)]; rfl
            | rw [k2 (by omega) (by omega)]; rfl
            | rw [k3 (by omega) (by omega) (by omega)]; rfl
            | rw [k4 (by omega) (by omega) (by omega)]; rfl
            | (exfalso; omega)
        · replace h12 : ¬ (z ≤ 57) := h12
          refine g_iload_n lk_71_26 rfl ?_
          refine g_bipush lk_71_27 ?_
          refine g_icmp (t := 34) lk_71_29 rfl (by first | (unfold pm_inI; omega) | exact pm_and_in _ _ | exact pm_shr_in _ _ | exact pm_or_in _ _ | exact pm_xor_in _ _ | exact pm_shl_in _ _ | exact pm_cmp_in _ _ | exact pm_b8_in _ | (unfold pm_inI; split <;> omega)) (by first | (unfold pm_inI; omega) | exact pm_and_in _ _ | exact pm_shr_in _ _ | exact pm_or_in _ _ | exact pm_xor_in _ _ | exact pm_shl_in _ _ | exact pm_cmp_in _ _ | exact pm_b8_in _ | (unfold pm_inI; split <;> omega)) (fun h13 => ?_) (fun h13 => ?_)
          · replace h13 : ¬ z = 46 := h13
            refine g_iload_n lk_71_34 rfl ?_
            refine g_bipush lk_71_35 ?_
            refine g_icmp (t := 44) lk_71_37 rfl (by first | (unfold pm_inI; omega) | exact pm_and_in _ _ | exact pm_shr_in _ _ | exact pm_or_in _ _ | exact pm_xor_in _ _ | exact pm_shl_in _ _ | exact pm_cmp_in _ _ | exact pm_b8_in _ | (unfold pm_inI; split <;> omega)) (by first | (unfold pm_inI; omega) | exact pm_and_in _ _ | exact pm_shr_in _ _ | exact pm_or_in _ _ | exact pm_xor_in _ _ | exact pm_shl_in _ _ | exact pm_cmp_in _ _ | exact pm_b8_in _ | (unfold pm_inI; split <;> omega)) (fun h14 => ?_) (fun h14 => ?_)
            · replace h14 : ¬ z = 59 := h14
              refine g_iconst lk_71_44 ?_
              refine g_ireturn lk_71_45 (fun h => absurd h (by decide)) ?_
              refine ⟨?_, rfl⟩
              first
                | rw [k1 (by omega)]; rfl
                | rw [k2 (by omega) (by omega)]; rfl
                | rw [k3 (by omega) (by omega) (by omega)]; rfl
                | rw [k4 (by omega) (by omega) (by omega)]; rfl
                | (exfalso; omega)
            · replace h14 : ¬ (¬ z = 59) := h14
              refine g_iconst lk_71_40 ?_
              refine g_goto (t := 45) lk_71_41 rfl ?_
              refine g_ireturn lk_71_45 (fun h => absurd h (by decide)) ?_
              refine ⟨?_, rfl⟩
              first
                | rw [k1 (by omega)]; rfl
                | rw [k2 (by omega) (by omega)]; rfl
                | rw [k3 (by omega) (by omega) (by omega)]; rfl
                | rw [k4 (by omega) (by omega) (by omega)]; rfl
                | (exfalso; omega)
          · replace h13 : ¬ (¬ z = 46) := h13
            refine g_iconst lk_71_32 ?_
            refine g_ireturn lk_71_33 (fun h => absurd h (by decide)) ?_
            refine ⟨?_, rfl⟩
            first
              | rw [k1 (by omega)]; rfl
              | rw [k2 (by omega) (by omega)]; rfl
              | rw [k3 (by omega) (by omega) (by omega)]; rfl
              | rw [k4 (by omega) (by omega) (by omega)]; rfl
              | (exfalso; omega)
    · replace h8 : ¬ (122 < z) := h8
      refine g_iconst lk_71_12 ?_
      refine g_ireturn lk_71_13 (fun h => absurd h (by decide)) ?_
      refine ⟨?_, rfl⟩
      first
        | rw [k1 (by omega)]; rfl
        | rw [k2 (by omega) (by omega)]; rfl
        | rw [k3 (by omega) (by omega) (by omega)]; rfl
        | rw [k4 (by omega) (by omega) (by omega)]; rfl
        | (exfalso; omega)
theorem RdF.mu {M : pm_M} {f : Nat → Int} (h : ∀ k, k ∉ [9, 10, 11, 12, 13] → f k = pm_ct M 2 k) : RdF M (Mu [(2, f)] M) := ⟨Fr.mu _ _ rfl, fun k hk => by rw [Mu_ct]; exact h k hk⟩
theorem kdc_1 {c : Nat} (h : kdc c = 1) : 97 ≤ c ∧ c ≤ 122 := by
  unfold kdc at h
  by_cases e : 97 ≤ c ∧ c ≤ 122
  · exact e
  · rw [if_neg e] at h
    split at h
    · cases h
    · split at h <;> cases h
set_option maxHeartbeats 8000000 in
theorem c_Reader_advance {d mc ms : Nat} {M : pm_M} (lay0 : Lay M) {n : Nat} {ch : Nat → Nat} (hM0 : TcX M n ch) {p : Nat} (hp : pm_ct M 2 9 = (p : Int)) (pn : p ≤ n) :
    pm_E (d + 1) 70 [(2, ((2 : Nat) : Int))] M mc ms (fun ρ M' => ρ = none ∧ Lay M' ∧ RdF M M' ∧ TkX M' ch (lxt ch n p)) := by
  obtain ⟨Q, hQ⟩ : ∃ Q : pm_Q, Q = (fun ρ M' => ρ = none ∧ Lay M' ∧ RdF M M' ∧ TkX M' ch (lxt ch n p)) := ⟨_, rfl⟩
  rw [← hQ]
  have n5 := hM0.1
  obtain ⟨a, ha⟩ : ∃ a, a = skp ch n 500 p := ⟨_, rfl⟩
  have sl := skp_le ch n 500 p
  rw [← ha] at sl
  have an := sl.2 pn
  have et : lxt ch n p = lxA ch n a := by unfold lxt; rw [ha]
  rw [et] at hQ
  -- the end: place and size are known
  have fin : ∀ (N : pm_M) (v1 : pm_V) (K s : Nat) (z : Int), Lay N → RdF M N → pm_ct N 2 11 = (a : Int) → pm_ct N 2 10 = (K : Int) → pm_ct N 2 12 = (s : Int) → pm_ct N 2 13 = z → s ≤ 500 → lxA ch n a = (if 6 < s then 4 else K, a, a + s) → (s ≤ 6 → K = 1 → z = ((nr 27 (lw' ch a s) : Nat) : Int)) → Wp (d + 1) 70 207 [(2, ((2 : Nat) : Int)), v1] [] N mc ms Q := by
    intro N v1 K s z lay rf f11 f10 f12 f13 s5 hl hz
    have go : ∀ (N' : pm_M) (f : Nat → Int), N' = Mu [(2, f)] N → Lay N' → (∀ k, k ∉ [9, 10, 11, 12, 13] → f k = pm_ct N 2 k) → f 9 = ((a + s : Nat) : Int) → f 11 = (a : Int) → f 12 = (s : Int) → f 13 = z → f 10 = ((if 6 < s then 4 else K : Nat) : Int) → Q none N' := fun N' f hN' l1 h0 h9 h11 h12 h13 h10 => by
      rw [hQ, hN'] at *
      refine ⟨rfl, l1, rf.trans (RdF.mu h0), ?_⟩
      rw [hl]
      unfold TkX
      rw [Mu_ct]
      refine ⟨h10, h11, ?_, h9, fun q => ?_⟩
      · show f 12 = ((a + s - a : Nat) : Int)
        rw [h12]; omega
      · show f 13 = ((nr 27 (lw' ch a (a + s - a)) : Nat) : Int)
        have q' : (if 6 < s then 4 else K) = 1 := q
        rw [show a + s - a = s by omega, h13]
        by_cases e : 6 < s
        · rw [if_pos e] at q'; cases q'
        · rw [if_neg e] at q'; exact hz (by omega) q'
    have e9 : (a : Int) + (s : Int) = ((a + s : Nat) : Int) := by omega
    by_cases e : 6 < s
    · skip
      refine g_aload_n lk_70_207 rfl ?_
      refine g_aload_n lk_70_208 rfl ?_
      refine m_getfield (u := []) (M := N) lk_70_209 rfl (lay.on (by decide) rfl) (v := (a : Int)) f11 ?_
      refine g_aload_n lk_70_212 rfl ?_
      refine m_getfield (u := []) (M := N) lk_70_213 rfl (lay.on (by decide) rfl) (v := (s : Int)) f12 ?_
      refine g_iadd lk_70_216 ?_
      refine g_top (z := ((a : Int) + (s : Int))) (z' := ((a + s : Nat) : Int)) (e9) ?_
      have lay1 : Lay (Mu [(2, pm_upd (pm_ct N 2) 9 ((a + s : Nat) : Int))] N) := lay.muF (l := []) (a := 2) (k := 9) (z := ((a + s : Nat) : Int)) rfl rfl
      refine m_putfield (u := []) (u' := [(2, pm_upd (pm_ct N 2) 9 ((a + s : Nat) : Int))]) (M := N) lk_70_217 rfl (lay.on (by decide) rfl) (fun h => absurd h (by decide)) rfl ?_
      refine g_aload_n lk_70_220 rfl ?_
      refine m_getfield (u := [(2, pm_upd (pm_ct N 2) 9 ((a + s : Nat) : Int))]) (M := N) lk_70_221 rfl (lay1.on (by decide) rfl) (v := (s : Int)) f12 ?_
      refine g_bipush lk_70_224 ?_
      refine g_icmp (t := 234) lk_70_226 rfl (by first | (unfold pm_inI; omega) | exact pm_and_in _ _ | exact pm_shr_in _ _ | exact pm_or_in _ _ | exact pm_xor_in _ _ | exact pm_shl_in _ _ | exact pm_cmp_in _ _ | exact pm_b8_in _ | (unfold pm_inI; split <;> omega)) (by first | (unfold pm_inI; omega) | exact pm_and_in _ _ | exact pm_shr_in _ _ | exact pm_or_in _ _ | exact pm_xor_in _ _ | exact pm_shl_in _ _ | exact pm_cmp_in _ _ | exact pm_b8_in _ | (unfold pm_inI; split <;> omega)) (fun h2 => ?_) (fun h2 => ?_)
      · replace h2 : (s : Int) ≤ 6 := h2
        refine g_return lk_70_234 ?_
        omega
      · replace h2 : ¬ ((s : Int) ≤ 6) := h2
        refine g_aload_n lk_70_229 rfl ?_
        refine g_iconst lk_70_230 ?_
        have lay3 : Lay (Mu [(2, pm_upd (pm_upd (pm_ct N 2) 9 ((a + s : Nat) : Int)) 10 4)] N) := lay1.muF (l := [(2, pm_upd (pm_ct N 2) 9 ((a + s : Nat) : Int))]) (a := 2) (k := 10) (z := 4) rfl rfl
        refine m_putfield (u := [(2, pm_upd (pm_ct N 2) 9 ((a + s : Nat) : Int))]) (u' := [(2, pm_upd (pm_upd (pm_ct N 2) 9 ((a + s : Nat) : Int)) 10 4)]) (M := N) lk_70_231 rfl (lay1.on (by decide) rfl) (fun h => absurd h (by decide)) rfl ?_
        refine g_return lk_70_234 ?_
        refine go _ _ rfl lay3 (fun k hk => ?_) rfl f11 f12 f13 (by rw [if_pos e]; rfl)
        simp at hk
        rw [pm_upd_ne (by omega), pm_upd_ne (by omega)]
    · skip
      refine g_aload_n lk_70_207 rfl ?_
      refine g_aload_n lk_70_208 rfl ?_
      refine m_getfield (u := []) (M := N) lk_70_209 rfl (lay.on (by decide) rfl) (v := (a : Int)) f11 ?_
      refine g_aload_n lk_70_212 rfl ?_
      refine m_getfield (u := []) (M := N) lk_70_213 rfl (lay.on (by decide) rfl) (v := (s : Int)) f12 ?_
      refine g_iadd lk_70_216 ?_
      refine g_top (z := ((a : Int) + (s : Int))) (z' := ((a + s : Nat) : Int)) (e9) ?_
      have lay1 : Lay (Mu [(2, pm_upd (pm_ct N 2) 9 ((a + s : Nat) : Int))] N) := lay.muF (l := []) (a := 2) (k := 9) (z := ((a + s : Nat) : Int)) rfl rfl
      refine m_putfield (u := []) (u' := [(2, pm_upd (pm_ct N 2) 9 ((a + s : Nat) : Int))]) (M := N) lk_70_217 rfl (lay.on (by decide) rfl) (fun h => absurd h (by decide)) rfl ?_
      refine g_aload_n lk_70_220 rfl ?_
      refine m_getfield (u := [(2, pm_upd (pm_ct N 2) 9 ((a + s : Nat) : Int))]) (M := N) lk_70_221 rfl (lay1.on (by decide) rfl) (v := (s : Int)) f12 ?_
      refine g_bipush lk_70_224 ?_
      refine g_icmp (t := 234) lk_70_226 rfl (by first | (unfold pm_inI; omega) | exact pm_and_in _ _ | exact pm_shr_in _ _ | exact pm_or_in _ _ | exact pm_xor_in _ _ | exact pm_shl_in _ _ | exact pm_cmp_in _ _ | exact pm_b8_in _ | (unfold pm_inI; split <;> omega)) (by first | (unfold pm_inI; omega) | exact pm_and_in _ _ | exact pm_shr_in _ _ | exact pm_or_in _ _ | exact pm_xor_in _ _ | exact pm_shl_in _ _ | exact pm_cmp_in _ _ | exact pm_b8_in _ | (unfold pm_inI; split <;> omega)) (fun h2 => ?_) (fun h2 => ?_)
      · replace h2 : (s : Int) ≤ 6 := h2
        refine g_return lk_70_234 ?_
        refine go _ _ rfl lay1 (fun k hk => ?_) rfl f11 f12 f13 (by rw [if_neg e]; exact f10)
        simp at hk
        rw [pm_upd_ne (by omega)]
      · replace h2 : ¬ ((s : Int) ≤ 6) := h2
        refine g_aload_n lk_70_229 rfl ?_
        refine g_iconst lk_70_230 ?_
        have lay3 : Lay (Mu [(2, pm_upd (pm_upd (pm_ct N 2) 9 ((a + s : Nat) : Int)) 10 4)] N) := lay1.muF (l := [(2, pm_upd (pm_ct N 2) 9 ((a + s : Nat) : Int))]) (a := 2) (k := 10) (z := 4) rfl rfl
        refine m_putfield (u := [(2, pm_upd (pm_ct N 2) 9 ((a + s : Nat) : Int))]) (u' := [(2, pm_upd (pm_upd (pm_ct N 2) 9 ((a + s : Nat) : Int)) 10 4)]) (M := N) lk_70_231 rfl (lay1.on (by decide) rfl) (fun h => absurd h (by decide)) rfl ?_
        refine g_return lk_70_234 ?_
        omega
  -- a word or a run grows
  have grow : ∀ (K : Nat), (K = 1 ∨ K = 2) → a < n → kdc (ch a) = K → ∀ (k s : Nat) (N : pm_M) (z : Int), a + s ≤ n → n ≤ a + s + k → spn ch n K 500 a = spn ch n K k (a + s) → (∀ i, a ≤ i → i < a + s → kdc (ch i) = K) → Lay N → RdF M N → pm_ct N 2 11 = (a : Int) → pm_ct N 2 10 = (K : Int) → pm_ct N 2 12 = (s : Int) → pm_ct N 2 13 = z → (K = 1 → z = ((nr 27 (lw' ch a s) : Nat) : Int)) → Wp (d + 1) 70 131 [(2, ((2 : Nat) : Int)), (0, 1)] [] N mc ms Q := by
    intro K hK an' hka k
    have done : ∀ (s : Nat), a + s ≤ n → spn ch n K 500 a = a + s → lxA ch n a = (if 6 < s then 4 else K, a, a + s) := fun s g1 g2 => by
      unfold lxA
      rw [if_neg (by omega), hka, if_neg (by omega), g2, show a + s - a = s by omega]
      split <;> rfl
    induction k with
    | zero =>
      intro s N z g1 g2 g3 g4 lay rf f11 f10 f12 f13 hz
      have f4 := (hM0.rd rf).2.1
      have e9 : (a : Int) + (s : Int) = ((a + s : Nat) : Int) := by omega
      refine g_iload_n lk_70_131 rfl ?_
      refine g_if (t := 207) lk_70_132 rfl (by first | (unfold pm_inI; omega) | exact pm_and_in _ _ | exact pm_shr_in _ _ | exact pm_or_in _ _ | exact pm_xor_in _ _ | exact pm_shl_in _ _ | exact pm_cmp_in _ _ | exact pm_b8_in _ | (unfold pm_inI; split <;> omega)) (fun h => absurd h (show ¬ ((1 : Int) = (0 : Int)) by omega)) (fun _ => ?_)
      refine g_aload_n lk_70_135 rfl ?_
      refine m_getfield (u := []) (M := N) lk_70_136 rfl (lay.on (by decide) rfl) (v := (a : Int)) f11 ?_
      refine g_aload_n lk_70_139 rfl ?_
      refine m_getfield (u := []) (M := N) lk_70_140 rfl (lay.on (by decide) rfl) (v := (s : Int)) f12 ?_
      refine g_iadd lk_70_143 ?_
      refine g_aload_n lk_70_144 rfl ?_
      refine m_getfield (u := []) (M := N) lk_70_145 rfl (lay.on (by decide) rfl) (v := (n : Int)) f4 ?_
      refine g_icmp (t := 207) lk_70_148 rfl (by first | (unfold pm_inI; omega) | exact pm_and_in _ _ | exact pm_shr_in _ _ | exact pm_or_in _ _ | exact pm_xor_in _ _ | exact pm_shl_in _ _ | exact pm_cmp_in _ _ | exact pm_b8_in _ | (unfold pm_inI; split <;> omega)) (by first | (unfold pm_inI; omega) | exact pm_and_in _ _ | exact pm_shr_in _ _ | exact pm_or_in _ _ | exact pm_xor_in _ _ | exact pm_shl_in _ _ | exact pm_cmp_in _ _ | exact pm_b8_in _ | (unfold pm_inI; split <;> omega)) (fun h1 => ?_) (fun h1 => ?_)
      · replace h1 : (n : Int) ≤ ((a : Int) + (s : Int)) := h1
        exact fin N _ K s z lay rf f11 f10 f12 f13 (by omega) (done s g1 g3) (fun _ => hz)
      · replace h1 : ¬ ((n : Int) ≤ ((a : Int) + (s : Int))) := h1
        omega
    | succ k ih =>
      intro s N z g1 g2 g3 g4 lay rf f11 f10 f12 f13 hz
      have tc := hM0.rd rf
      have f4 := tc.2.1
      replace g3 : spn ch n K 500 a = if a + s < n ∧ kdc (ch (a + s)) = K then spn ch n K k (a + s + 1) else a + s := g3
      by_cases e1 : a + s < n
      · have c256 := (hM0.2.2 (a + s) e1).1
        have sa := c_Reader_signAt (d := d) (mc := 0) (ms := 0) lay tc f11 (by omega) (i := s) (by omega)
        rw [if_pos e1] at sa
        have ko := fun (M : pm_M) => c_Reader_kindOf (d := d) (mc := 0) (ms := 0) (M := M) c256
        have kr := kdc_r (ch (a + s))
        by_cases e2 : kdc (ch (a + s)) = K
        · rw [if_pos ⟨e1, e2⟩] at g3
          have hs := sgn_r c256
          obtain ⟨y, hy⟩ : ∃ y, y = sgn (ch (a + s)) := ⟨_, rfl⟩
          have es1 : ((s + 1 : Nat) : Int) = (s : Int) + 1 := by omega
          have nx := fun N' => ih (s + 1) N' (z * 27 + sgn (ch (a + s)) - 97 + 1) (by omega) (by omega) (by rw [g3]; rfl) (fun i q1 q2 => by
            by_cases q : i = a + s
            · rw [q]; exact e2
            · exact g4 i q1 (by omega))
          rw [← hy] at sa ko hs nx
          obtain ⟨kk, hkk⟩ : ∃ kk, kk = kdc (ch (a + s)) := ⟨_, rfl⟩
          rw [← hkk] at ko kr e2
          have zw : K = 1 → z * 27 + y - 97 + 1 = ((nr 27 (lw' ch a (s + 1)) : Nat) : Int) := fun q => by
            have k1 := kdc_1 (c := ch (a + s)) (by omega)
            show _ = (((ch (a + s) - 96) + 27 * nr 27 (lw' ch a s) : Nat) : Int)
            have := hz q
            omega
          clear ih
          refine g_iload_n lk_70_131 rfl ?_
          refine g_if (t := 207) lk_70_132 rfl (by first | (unfold pm_inI; omega) | exact pm_and_in _ _ | exact pm_shr_in _ _ | exact pm_or_in _ _ | exact pm_xor_in _ _ | exact pm_shl_in _ _ | exact pm_cmp_in _ _ | exact pm_b8_in _ | (unfold pm_inI; split <;> omega)) (fun h => absurd h (show ¬ ((1 : Int) = (0 : Int)) by omega)) (fun _ => ?_)
          refine g_aload_n lk_70_135 rfl ?_
          refine m_getfield (u := []) (M := N) lk_70_136 rfl (lay.on (by decide) rfl) (v := (a : Int)) f11 ?_
          refine g_aload_n lk_70_139 rfl ?_
          refine m_getfield (u := []) (M := N) lk_70_140 rfl (lay.on (by decide) rfl) (v := (s : Int)) f12 ?_
          refine g_iadd lk_70_143 ?_
          refine g_aload_n lk_70_144 rfl ?_
          refine m_getfield (u := []) (M := N) lk_70_145 rfl (lay.on (by decide) rfl) (v := (n : Int)) f4 ?_
          refine g_icmp (t := 207) lk_70_148 rfl (by first | (unfold pm_inI; omega) | exact pm_and_in _ _ | exact pm_shr_in _ _ | exact pm_or_in _ _ | exact pm_xor_in _ _ | exact pm_shl_in _ _ | exact pm_cmp_in _ _ | exact pm_b8_in _ | (unfold pm_inI; split <;> omega)) (by first | (unfold pm_inI; omega) | exact pm_and_in _ _ | exact pm_shr_in _ _ | exact pm_or_in _ _ | exact pm_xor_in _ _ | exact pm_shl_in _ _ | exact pm_cmp_in _ _ | exact pm_b8_in _ | (unfold pm_inI; split <;> omega)) (fun h1 => ?_) (fun h1 => ?_)
          · replace h1 : (n : Int) ≤ ((a : Int) + (s : Int)) := h1
            omega
          · replace h1 : ¬ ((n : Int) ≤ ((a : Int) + (s : Int))) := h1
            refine g_aload_n lk_70_151 rfl ?_
            refine g_aload_n lk_70_152 rfl ?_
            refine m_getfield (u := []) (M := N) lk_70_153 rfl (lay.on (by decide) rfl) (v := (s : Int)) f12 ?_
            refine g_virtual (p := 2) (Qc := _) lk_70_156 rfl (Nat.le_of_ble_eq_true rfl) rfl rfl (lay.on (by decide) rfl) (Nat.le_of_ble_eq_true rfl) (Nat.le_of_ble_eq_true rfl) (Nat.zero_le _) (Nat.zero_le _) (sa) ?_
            rintro _ N2 ⟨rfl, hN2⟩
            rw [hN2]
            show Wp _ 70 159 [(2, ((2 : Nat) : Int)), (0, 1)] [(0, y)] N _ _ _
            refine g_static (Qc := _) lk_70_159 (by decide) rfl (Nat.le_of_ble_eq_true rfl) rfl rfl (Nat.le_of_ble_eq_true rfl) (Nat.le_of_ble_eq_true rfl) (Nat.zero_le _) (Nat.zero_le _) (ko _) ?_
            rintro _ N3 ⟨rfl, hN3⟩
            rw [hN3]
            show Wp _ 70 162 [(2, ((2 : Nat) : Int)), (0, 1)] [(0, (kk : Int))] N _ _ _
            refine g_aload_n lk_70_162 rfl ?_
            refine m_getfield (u := []) (M := N) lk_70_163 rfl (lay.on (by decide) rfl) (v := (K : Int)) f10 ?_
            refine g_icmp (t := 207) lk_70_166 rfl (by first | (unfold pm_inI; omega) | exact pm_and_in _ _ | exact pm_shr_in _ _ | exact pm_or_in _ _ | exact pm_xor_in _ _ | exact pm_shl_in _ _ | exact pm_cmp_in _ _ | exact pm_b8_in _ | (unfold pm_inI; split <;> omega)) (by first | (unfold pm_inI; omega) | exact pm_and_in _ _ | exact pm_shr_in _ _ | exact pm_or_in _ _ | exact pm_xor_in _ _ | exact pm_shl_in _ _ | exact pm_cmp_in _ _ | exact pm_b8_in _ | (unfold pm_inI; split <;> omega)) (fun h4 => ?_) (fun h4 => ?_)
            · replace h4 : ¬ (kk : Int) = (K : Int) := h4
              omega
            · replace h4 : ¬ (¬ (kk : Int) = (K : Int)) := h4
              refine g_aload_n lk_70_169 rfl ?_
              refine g_aload_n lk_70_170 rfl ?_
              refine m_getfield (u := []) (M := N) lk_70_171 rfl (lay.on (by decide) rfl) (v := z) f13 ?_
              refine g_bipush lk_70_174 ?_
              refine g_imul lk_70_176 ?_
              refine g_aload_n lk_70_177 rfl ?_
              refine g_aload_n lk_70_178 rfl ?_
              refine m_getfield (u := []) (M := N) lk_70_179 rfl (lay.on (by decide) rfl) (v := (s : Int)) f12 ?_
              refine g_virtual (p := 2) (Qc := _) lk_70_182 rfl (Nat.le_of_ble_eq_true rfl) rfl rfl (lay.on (by decide) rfl) (Nat.le_of_ble_eq_true rfl) (Nat.le_of_ble_eq_true rfl) (Nat.zero_le _) (Nat.zero_le _) (sa) ?_
              rintro _ N5 ⟨rfl, hN5⟩
              rw [hN5]
              show Wp _ 70 185 [(2, ((2 : Nat) : Int)), (0, 1)] [(0, y), (0, (z * 27)), (2, ((2 : Nat) : Int))] N _ _ _
              refine g_iadd lk_70_185 ?_
              refine g_bipush lk_70_186 ?_
              refine g_isub lk_70_188 ?_
              refine g_iconst lk_70_189 ?_
              refine g_iadd lk_70_190 ?_
              have lay6 : Lay (Mu [(2, pm_upd (pm_ct N 2) 13 ((((z * 27) + y) - 97) + 1))] N) := lay.muF (l := []) (a := 2) (k := 13) (z := ((((z * 27) + y) - 97) + 1)) rfl rfl
              refine m_putfield (u := []) (u' := [(2, pm_upd (pm_ct N 2) 13 ((((z * 27) + y) - 97) + 1))]) (M := N) lk_70_191 rfl (lay.on (by decide) rfl) (fun h => absurd h (by decide)) rfl ?_
              refine g_aload_n lk_70_194 rfl ?_
              refine g_dup lk_70_195 rfl ?_
              refine m_getfield (u := [(2, pm_upd (pm_ct N 2) 13 ((((z * 27) + y) - 97) + 1))]) (M := N) lk_70_196 rfl (lay6.on (by decide) rfl) (v := (s : Int)) f12 ?_
              refine g_iconst lk_70_199 ?_
              refine g_iadd lk_70_200 ?_
              have lay7 : Lay (Mu [(2, pm_upd (pm_upd (pm_ct N 2) 13 ((((z * 27) + y) - 97) + 1)) 12 ((s : Int) + 1))] N) := lay6.muF (l := [(2, pm_upd (pm_ct N 2) 13 ((((z * 27) + y) - 97) + 1))]) (a := 2) (k := 12) (z := ((s : Int) + 1)) rfl rfl
              refine m_putfield (u := [(2, pm_upd (pm_ct N 2) 13 ((((z * 27) + y) - 97) + 1))]) (u' := [(2, pm_upd (pm_upd (pm_ct N 2) 13 ((((z * 27) + y) - 97) + 1)) 12 ((s : Int) + 1))]) (M := N) lk_70_201 rfl (lay6.on (by decide) rfl) (fun h => absurd h (by decide)) rfl ?_
              refine g_goto (t := 131) lk_70_204 rfl ?_
              refine nx _ lay7 (rf.trans (RdF.mu (fun k hk => ?_))) (by rw [Mu_ct]; exact f11) (by rw [Mu_ct]; exact f10) (by rw [Mu_ct]; rfl) (by rw [Mu_ct]; rfl) zw
              simp at hk
              rw [pm_upd_ne (by omega), pm_upd_ne (by omega)]
        · rw [if_neg (fun q => e2 q.2)] at g3
          obtain ⟨kk, hkk⟩ : ∃ kk, kk = kdc (ch (a + s)) := ⟨_, rfl⟩
          rw [← hkk] at ko kr e2
          obtain ⟨y, hy⟩ : ∃ y, y = sgn (ch (a + s)) := ⟨_, rfl⟩
          rw [← hy] at sa ko
          clear ih
          refine g_iload_n lk_70_131 rfl ?_
          refine g_if (t := 207) lk_70_132 rfl (by first | (unfold pm_inI; omega) | exact pm_and_in _ _ | exact pm_shr_in _ _ | exact pm_or_in _ _ | exact pm_xor_in _ _ | exact pm_shl_in _ _ | exact pm_cmp_in _ _ | exact pm_b8_in _ | (unfold pm_inI; split <;> omega)) (fun h => absurd h (show ¬ ((1 : Int) = (0 : Int)) by omega)) (fun _ => ?_)
          refine g_aload_n lk_70_135 rfl ?_
          refine m_getfield (u := []) (M := N) lk_70_136 rfl (lay.on (by decide) rfl) (v := (a : Int)) f11 ?_
          refine g_aload_n lk_70_139 rfl ?_
          refine m_getfield (u := []) (M := N) lk_70_140 rfl (lay.on (by decide) rfl) (v := (s : Int)) f12 ?_
          refine g_iadd lk_70_143 ?_
          refine g_aload_n lk_70_144 rfl ?_
          refine m_getfield (u := []) (M := N) lk_70_145 rfl (lay.on (by decide) rfl) (v := (n : Int)) f4 ?_
          refine g_icmp (t := 207) lk_70_148 rfl (by first | (unfold pm_inI; omega) | exact pm_and_in _ _ | exact pm_shr_in _ _ | exact pm_or_in _ _ | exact pm_xor_in _ _ | exact pm_shl_in _ _ | exact pm_cmp_in _ _ | exact pm_b8_in _ | (unfold pm_inI; split <;> omega)) (by first | (unfold pm_inI; omega) | exact pm_and_in _ _ | exact pm_shr_in _ _ | exact pm_or_in _ _ | exact pm_xor_in _ _ | exact pm_shl_in _ _ | exact pm_cmp_in _ _ | exact pm_b8_in _ | (unfold pm_inI; split <;> omega)) (fun h1 => ?_) (fun h1 => ?_)
          · replace h1 : (n : Int) ≤ ((a : Int) + (s : Int)) := h1
            exact fin N _ K s z lay rf f11 f10 f12 f13 (by omega) (done s g1 g3) (fun _ => hz)
          · replace h1 : ¬ ((n : Int) ≤ ((a : Int) + (s : Int))) := h1
            refine g_aload_n lk_70_151 rfl ?_
            refine g_aload_n lk_70_152 rfl ?_
            refine m_getfield (u := []) (M := N) lk_70_153 rfl (lay.on (by decide) rfl) (v := (s : Int)) f12 ?_
            refine g_virtual (p := 2) (Qc := _) lk_70_156 rfl (Nat.le_of_ble_eq_true rfl) rfl rfl (lay.on (by decide) rfl) (Nat.le_of_ble_eq_true rfl) (Nat.le_of_ble_eq_true rfl) (Nat.zero_le _) (Nat.zero_le _) (sa) ?_
            rintro _ N2 ⟨rfl, hN2⟩
            rw [hN2]
            show Wp _ 70 159 [(2, ((2 : Nat) : Int)), (0, 1)] [(0, y)] N _ _ _
            refine g_static (Qc := _) lk_70_159 (by decide) rfl (Nat.le_of_ble_eq_true rfl) rfl rfl (Nat.le_of_ble_eq_true rfl) (Nat.le_of_ble_eq_true rfl) (Nat.zero_le _) (Nat.zero_le _) (ko _) ?_
            rintro _ N3 ⟨rfl, hN3⟩
            rw [hN3]
            show Wp _ 70 162 [(2, ((2 : Nat) : Int)), (0, 1)] [(0, (kk : Int))] N _ _ _
            refine g_aload_n lk_70_162 rfl ?_
            refine m_getfield (u := []) (M := N) lk_70_163 rfl (lay.on (by decide) rfl) (v := (K : Int)) f10 ?_
            refine g_icmp (t := 207) lk_70_166 rfl (by first | (unfold pm_inI; omega) | exact pm_and_in _ _ | exact pm_shr_in _ _ | exact pm_or_in _ _ | exact pm_xor_in _ _ | exact pm_shl_in _ _ | exact pm_cmp_in _ _ | exact pm_b8_in _ | (unfold pm_inI; split <;> omega)) (by first | (unfold pm_inI; omega) | exact pm_and_in _ _ | exact pm_shr_in _ _ | exact pm_or_in _ _ | exact pm_xor_in _ _ | exact pm_shl_in _ _ | exact pm_cmp_in _ _ | exact pm_b8_in _ | (unfold pm_inI; split <;> omega)) (fun h4 => ?_) (fun h4 => ?_)
            · replace h4 : ¬ (kk : Int) = (K : Int) := h4
              exact fin N _ K s z lay rf f11 f10 f12 f13 (by omega) (done s g1 g3) (fun _ => hz)
            · replace h4 : ¬ (¬ (kk : Int) = (K : Int)) := h4
              omega
      · rw [if_neg (fun q => e1 q.1)] at g3
        clear ih
        refine g_iload_n lk_70_131 rfl ?_
        refine g_if (t := 207) lk_70_132 rfl (by first | (unfold pm_inI; omega) | exact pm_and_in _ _ | exact pm_shr_in _ _ | exact pm_or_in _ _ | exact pm_xor_in _ _ | exact pm_shl_in _ _ | exact pm_cmp_in _ _ | exact pm_b8_in _ | (unfold pm_inI; split <;> omega)) (fun h => absurd h (show ¬ ((1 : Int) = (0 : Int)) by omega)) (fun _ => ?_)
        refine g_aload_n lk_70_135 rfl ?_
        refine m_getfield (u := []) (M := N) lk_70_136 rfl (lay.on (by decide) rfl) (v := (a : Int)) f11 ?_
        refine g_aload_n lk_70_139 rfl ?_
        refine m_getfield (u := []) (M := N) lk_70_140 rfl (lay.on (by decide) rfl) (v := (s : Int)) f12 ?_
        refine g_iadd lk_70_143 ?_
        refine g_aload_n lk_70_144 rfl ?_
        refine m_getfield (u := []) (M := N) lk_70_145 rfl (lay.on (by decide) rfl) (v := (n : Int)) f4 ?_
        refine g_icmp (t := 207) lk_70_148 rfl (by first | (unfold pm_inI; omega) | exact pm_and_in _ _ | exact pm_shr_in _ _ | exact pm_or_in _ _ | exact pm_xor_in _ _ | exact pm_shl_in _ _ | exact pm_cmp_in _ _ | exact pm_b8_in _ | (unfold pm_inI; split <;> omega)) (by first | (unfold pm_inI; omega) | exact pm_and_in _ _ | exact pm_shr_in _ _ | exact pm_or_in _ _ | exact pm_xor_in _ _ | exact pm_shl_in _ _ | exact pm_cmp_in _ _ | exact pm_b8_in _ | (unfold pm_inI; split <;> omega)) (fun h1 => ?_) (fun h1 => ?_)
        · replace h1 : (n : Int) ≤ ((a : Int) + (s : Int)) := h1
          exact fin N _ K s z lay rf f11 f10 f12 f13 (by omega) (done s g1 g3) (fun _ => hz)
        · replace h1 : ¬ ((n : Int) ≤ ((a : Int) + (s : Int))) := h1
          omega
  -- behind the blanks
  have k52 : ∀ (N : pm_M), Lay N → RdF M N → pm_ct N 2 11 = (a : Int) → Wp (d + 1) 70 52 [(2, ((2 : Nat) : Int)), (9, 0)] [] N mc ms Q := by
    intro N lay rf f11
    have tc := hM0.rd rf
    have f4 := tc.2.1
    have rfu : ∀ (z1 z2 z3 : Int), RdF M (Mu [(2, pm_upd (pm_upd (pm_upd (pm_ct N 2) 10 z1) 12 z2) 13 z3)] N) := fun z1 z2 z3 => rf.trans (RdF.mu (fun k hk => by
      simp at hk
      rw [pm_upd_ne (by omega), pm_upd_ne (by omega), pm_upd_ne (by omega)]))
    by_cases e1 : n ≤ a
    · have hl : lxA ch n a = (if 6 < 0 then 4 else 0, a, a + 0) := by unfold lxA; rw [if_pos e1]; rfl
      refine g_aload_n lk_70_52 rfl ?_
      refine g_aload_n lk_70_53 rfl ?_
      refine m_getfield (u := []) (M := N) lk_70_54 rfl (lay.on (by decide) rfl) (v := (a : Int)) f11 ?_
      refine g_aload_n lk_70_57 rfl ?_
      refine m_getfield (u := []) (M := N) lk_70_58 rfl (lay.on (by decide) rfl) (v := (n : Int)) f4 ?_
      refine g_icmp (t := 75) lk_70_61 rfl (by first | (unfold pm_inI; omega) | exact pm_and_in _ _ | exact pm_shr_in _ _ | exact pm_or_in _ _ | exact pm_xor_in _ _ | exact pm_shl_in _ _ | exact pm_cmp_in _ _ | exact pm_b8_in _ | (unfold pm_inI; split <;> omega)) (by first | (unfold pm_inI; omega) | exact pm_and_in _ _ | exact pm_shr_in _ _ | exact pm_or_in _ _ | exact pm_xor_in _ _ | exact pm_shl_in _ _ | exact pm_cmp_in _ _ | exact pm_b8_in _ | (unfold pm_inI; split <;> omega)) (fun h1 => ?_) (fun h1 => ?_)
      · replace h1 : (n : Int) ≤ (a : Int) := h1
        refine g_iconst lk_70_75 ?_
        have lay2 : Lay (Mu [(2, pm_upd (pm_ct N 2) 10 0)] N) := lay.muF (l := []) (a := 2) (k := 10) (z := 0) rfl rfl
        refine m_putfield (u := []) (u' := [(2, pm_upd (pm_ct N 2) 10 0)]) (M := N) lk_70_76 rfl (lay.on (by decide) rfl) (fun h => absurd h (by decide)) rfl ?_
        refine g_aload_n lk_70_79 rfl ?_
        refine g_aload_n lk_70_80 rfl ?_
        refine m_getfield (u := [(2, pm_upd (pm_ct N 2) 10 0)]) (M := N) lk_70_81 rfl (lay2.on (by decide) rfl) (v := 0) rfl ?_
        refine g_iconst lk_70_84 ?_
        refine g_icmp (t := 96) lk_70_85 rfl (by first | (unfold pm_inI; omega) | exact pm_and_in _ _ | exact pm_shr_in _ _ | exact pm_or_in _ _ | exact pm_xor_in _ _ | exact pm_shl_in _ _ | exact pm_cmp_in _ _ | exact pm_b8_in _ | (unfold pm_inI; split <;> omega)) (by first | (unfold pm_inI; omega) | exact pm_and_in _ _ | exact pm_shr_in _ _ | exact pm_or_in _ _ | exact pm_xor_in _ _ | exact pm_shl_in _ _ | exact pm_cmp_in _ _ | exact pm_b8_in _ | (unfold pm_inI; split <;> omega)) (fun h => absurd h (show ¬ ((0 : Int) = (3 : Int)) by omega)) (fun _ => ?_)
        refine g_aload_n lk_70_88 rfl ?_
        refine m_getfield (u := [(2, pm_upd (pm_ct N 2) 10 0)]) (M := N) lk_70_89 rfl (lay2.on (by decide) rfl) (v := 0) rfl ?_
        refine g_iconst lk_70_92 ?_
        refine g_icmp (t := 100) lk_70_93 rfl (by first | (unfold pm_inI; omega) | exact pm_and_in _ _ | exact pm_shr_in _ _ | exact pm_or_in _ _ | exact pm_xor_in _ _ | exact pm_shl_in _ _ | exact pm_cmp_in _ _ | exact pm_b8_in _ | (unfold pm_inI; split <;> omega)) (by first | (unfold pm_inI; omega) | exact pm_and_in _ _ | exact pm_shr_in _ _ | exact pm_or_in _ _ | exact pm_xor_in _ _ | exact pm_shl_in _ _ | exact pm_cmp_in _ _ | exact pm_b8_in _ | (unfold pm_inI; split <;> omega)) (fun _ => ?_) (fun h => absurd (show ¬ (0 : Int) = (4 : Int) by omega) h)
        refine g_iconst lk_70_100 ?_
        have lay3 : Lay (Mu [(2, pm_upd (pm_upd (pm_ct N 2) 10 0) 12 0)] N) := lay2.muF (l := [(2, pm_upd (pm_ct N 2) 10 0)]) (a := 2) (k := 12) (z := 0) rfl rfl
        refine m_putfield (u := [(2, pm_upd (pm_ct N 2) 10 0)]) (u' := [(2, pm_upd (pm_upd (pm_ct N 2) 10 0) 12 0)]) (M := N) lk_70_101 rfl (lay2.on (by decide) rfl) (fun h => absurd h (by decide)) rfl ?_
        refine g_aload_n lk_70_104 rfl ?_
        refine g_iconst lk_70_105 ?_
        have lay4 : Lay (Mu [(2, pm_upd (pm_upd (pm_upd (pm_ct N 2) 10 0) 12 0) 13 0)] N) := lay3.muF (l := [(2, pm_upd (pm_upd (pm_ct N 2) 10 0) 12 0)]) (a := 2) (k := 13) (z := 0) rfl rfl
        refine m_putfield (u := [(2, pm_upd (pm_upd (pm_ct N 2) 10 0) 12 0)]) (u' := [(2, pm_upd (pm_upd (pm_upd (pm_ct N 2) 10 0) 12 0) 13 0)]) (M := N) lk_70_106 rfl (lay3.on (by decide) rfl) (fun h => absurd h (by decide)) rfl ?_
        refine g_aload_n lk_70_109 rfl ?_
        refine m_getfield (u := [(2, pm_upd (pm_upd (pm_upd (pm_ct N 2) 10 0) 12 0) 13 0)]) (M := N) lk_70_110 rfl (lay4.on (by decide) rfl) (v := 0) rfl ?_
        refine g_iconst lk_70_113 ?_
        refine g_icmp (t := 125) lk_70_114 rfl (by first | (unfold pm_inI; omega) | exact pm_and_in _ _ | exact pm_shr_in _ _ | exact pm_or_in _ _ | exact pm_xor_in _ _ | exact pm_shl_in _ _ | exact pm_cmp_in _ _ | exact pm_b8_in _ | (unfold pm_inI; split <;> omega)) (by first | (unfold pm_inI; omega) | exact pm_and_in _ _ | exact pm_shr_in _ _ | exact pm_or_in _ _ | exact pm_xor_in _ _ | exact pm_shl_in _ _ | exact pm_cmp_in _ _ | exact pm_b8_in _ | (unfold pm_inI; split <;> omega)) (fun h => absurd h (show ¬ ((0 : Int) = (1 : Int)) by omega)) (fun _ => ?_)
        refine g_aload_n lk_70_117 rfl ?_
        refine m_getfield (u := [(2, pm_upd (pm_upd (pm_upd (pm_ct N 2) 10 0) 12 0) 13 0)]) (M := N) lk_70_118 rfl (lay4.on (by decide) rfl) (v := 0) rfl ?_
        refine g_iconst lk_70_121 ?_
        refine g_icmp (t := 129) lk_70_122 rfl (by first | (unfold pm_inI; omega) | exact pm_and_in _ _ | exact pm_shr_in _ _ | exact pm_or_in _ _ | exact pm_xor_in _ _ | exact pm_shl_in _ _ | exact pm_cmp_in _ _ | exact pm_b8_in _ | (unfold pm_inI; split <;> omega)) (by first | (unfold pm_inI; omega) | exact pm_and_in _ _ | exact pm_shr_in _ _ | exact pm_or_in _ _ | exact pm_xor_in _ _ | exact pm_shl_in _ _ | exact pm_cmp_in _ _ | exact pm_b8_in _ | (unfold pm_inI; split <;> omega)) (fun _ => ?_) (fun h => absurd (show ¬ (0 : Int) = (2 : Int) by omega) h)
        refine g_iconst lk_70_129 ?_
        refine g_istore_n (ls' := [(2, ((2 : Nat) : Int)), (0, 0)]) lk_70_130 rfl rfl ?_
        refine g_iload_n lk_70_131 rfl ?_
        refine g_if (t := 207) lk_70_132 rfl (by first | (unfold pm_inI; omega) | exact pm_and_in _ _ | exact pm_shr_in _ _ | exact pm_or_in _ _ | exact pm_xor_in _ _ | exact pm_shl_in _ _ | exact pm_cmp_in _ _ | exact pm_b8_in _ | (unfold pm_inI; split <;> omega)) (fun _ => ?_) (fun h => absurd (show (0 : Int) = (0 : Int) by omega) h)
        refine fin _ _ 0 0 0 lay4 (rfu _ _ _) (by rw [Mu_ct]; exact f11) (by rw [Mu_ct]; rfl) (by rw [Mu_ct]; rfl) (by rw [Mu_ct]; rfl) (by omega) hl (fun _ q => by cases q)
      · replace h1 : ¬ ((n : Int) ≤ (a : Int)) := h1
        omega
    · have c256 := (hM0.2.2 a (by omega)).1
      have sa := c_Reader_signAt (d := d) (mc := 0) (ms := 0) lay tc f11 (by omega) (i := 0) (by omega)
      rw [if_pos (show a + 0 < n by omega), Nat.add_zero] at sa
      have sa' : pm_E d 69 [(2, ((2 : Nat) : Int)), (0, 0)] N 0 0 (fun ρ M' => ρ = some (0, sgn (ch a)) ∧ M' = N) := sa
      have ko := fun (M : pm_M) => c_Reader_kindOf (d := d) (mc := 0) (ms := 0) (M := M) c256
      have kr := kdc_r (ch a)
      obtain ⟨y, hy⟩ : ∃ y, y = sgn (ch a) := ⟨_, rfl⟩
      rw [← hy] at sa' ko
      by_cases e2 : kdc (ch a) = 3 ∨ kdc (ch a) = 4
      · have hl : lxA ch n a = (if 6 < 1 then 4 else kdc (ch a), a, a + 1) := by unfold lxA; rw [if_neg e1, if_pos e2]; rfl
        obtain ⟨kk, hkk⟩ : ∃ kk, kk = kdc (ch a) := ⟨_, rfl⟩
        rw [← hkk] at ko kr e2 hl
        have fk := fun z1 z2 z3 (h1 : z1 = (kk : Int)) (h2 : z2 = 1) (h3 : z3 = 0) (l : Lay (Mu [(2, pm_upd (pm_upd (pm_upd (pm_ct N 2) 10 z1) 12 z2) 13 z3)] N)) => fin (Mu [(2, pm_upd (pm_upd (pm_upd (pm_ct N 2) 10 z1) 12 z2) 13 z3)] N) (0, 0) kk 1 0 l (rfu z1 z2 z3) (by rw [Mu_ct]; exact f11) (by rw [Mu_ct]; exact h1) (by rw [Mu_ct]; exact h2) (by rw [Mu_ct]; exact h3) (by omega) hl (fun _ q => by omega)
        rcases e2 with e3 | e3
        · rw [e3] at ko fk
          have ko' : ∀ M : pm_M, pm_E d 71 [(0, y)] M 0 0 (fun ρ M' => ρ = some (0, 3) ∧ M' = M) := ko
          refine g_aload_n lk_70_52 rfl ?_
          refine g_aload_n lk_70_53 rfl ?_
          refine m_getfield (u := []) (M := N) lk_70_54 rfl (lay.on (by decide) rfl) (v := (a : Int)) f11 ?_
          refine g_aload_n lk_70_57 rfl ?_
          refine m_getfield (u := []) (M := N) lk_70_58 rfl (lay.on (by decide) rfl) (v := (n : Int)) f4 ?_
          refine g_icmp (t := 75) lk_70_61 rfl (by first | (unfold pm_inI; omega) | exact pm_and_in _ _ | exact pm_shr_in _ _ | exact pm_or_in _ _ | exact pm_xor_in _ _ | exact pm_shl_in _ _ | exact pm_cmp_in _ _ | exact pm_b8_in _ | (unfold pm_inI; split <;> omega)) (by first | (unfold pm_inI; omega) | exact pm_and_in _ _ | exact pm_shr_in _ _ | exact pm_or_in _ _ | exact pm_xor_in _ _ | exact pm_shl_in _ _ | exact pm_cmp_in _ _ | exact pm_b8_in _ | (unfold pm_inI; split <;> omega)) (fun h1 => ?_) (fun h1 => ?_)
          · replace h1 : (n : Int) ≤ (a : Int) := h1
            omega
          · replace h1 : ¬ ((n : Int) ≤ (a : Int)) := h1
            refine g_aload_n lk_70_64 rfl ?_
            refine g_iconst lk_70_65 ?_
            refine g_virtual (p := 2) (Qc := _) lk_70_66 rfl (Nat.le_of_ble_eq_true rfl) rfl rfl (lay.on (by decide) rfl) (Nat.le_of_ble_eq_true rfl) (Nat.le_of_ble_eq_true rfl) (Nat.zero_le _) (Nat.zero_le _) (sa') ?_
            rintro _ N2 ⟨rfl, hN2⟩
            rw [hN2]
            show Wp _ 70 69 [(2, ((2 : Nat) : Int)), (9, 0)] [(0, y), (2, ((2 : Nat) : Int))] N _ _ _
            refine g_static (Qc := _) lk_70_69 (by decide) rfl (Nat.le_of_ble_eq_true rfl) rfl rfl (Nat.le_of_ble_eq_true rfl) (Nat.le_of_ble_eq_true rfl) (Nat.zero_le _) (Nat.zero_le _) (ko' _) ?_
            rintro _ N3 ⟨rfl, hN3⟩
            rw [hN3]
            show Wp _ 70 72 [(2, ((2 : Nat) : Int)), (9, 0)] [(0, 3), (2, ((2 : Nat) : Int))] N _ _ _
            refine g_goto (t := 76) lk_70_72 rfl ?_
            have lay4 : Lay (Mu [(2, pm_upd (pm_ct N 2) 10 3)] N) := lay.muF (l := []) (a := 2) (k := 10) (z := 3) rfl rfl
            refine m_putfield (u := []) (u' := [(2, pm_upd (pm_ct N 2) 10 3)]) (M := N) lk_70_76 rfl (lay.on (by decide) rfl) (fun h => absurd h (by decide)) rfl ?_
            refine g_aload_n lk_70_79 rfl ?_
            refine g_aload_n lk_70_80 rfl ?_
            refine m_getfield (u := [(2, pm_upd (pm_ct N 2) 10 3)]) (M := N) lk_70_81 rfl (lay4.on (by decide) rfl) (v := 3) rfl ?_
            refine g_iconst lk_70_84 ?_
            refine g_icmp (t := 96) lk_70_85 rfl (by first | (unfold pm_inI; omega) | exact pm_and_in _ _ | exact pm_shr_in _ _ | exact pm_or_in _ _ | exact pm_xor_in _ _ | exact pm_shl_in _ _ | exact pm_cmp_in _ _ | exact pm_b8_in _ | (unfold pm_inI; split <;> omega)) (by first | (unfold pm_inI; omega) | exact pm_and_in _ _ | exact pm_shr_in _ _ | exact pm_or_in _ _ | exact pm_xor_in _ _ | exact pm_shl_in _ _ | exact pm_cmp_in _ _ | exact pm_b8_in _ | (unfold pm_inI; split <;> omega)) (fun _ => ?_) (fun h => absurd (show (3 : Int) = (3 : Int) by omega) h)
            refine g_iconst lk_70_96 ?_
            refine g_goto (t := 101) lk_70_97 rfl ?_
            have lay5 : Lay (Mu [(2, pm_upd (pm_upd (pm_ct N 2) 10 3) 12 1)] N) := lay4.muF (l := [(2, pm_upd (pm_ct N 2) 10 3)]) (a := 2) (k := 12) (z := 1) rfl rfl
            refine m_putfield (u := [(2, pm_upd (pm_ct N 2) 10 3)]) (u' := [(2, pm_upd (pm_upd (pm_ct N 2) 10 3) 12 1)]) (M := N) lk_70_101 rfl (lay4.on (by decide) rfl) (fun h => absurd h (by decide)) rfl ?_
            refine g_aload_n lk_70_104 rfl ?_
            refine g_iconst lk_70_105 ?_
            have lay6 : Lay (Mu [(2, pm_upd (pm_upd (pm_upd (pm_ct N 2) 10 3) 12 1) 13 0)] N) := lay5.muF (l := [(2, pm_upd (pm_upd (pm_ct N 2) 10 3) 12 1)]) (a := 2) (k := 13) (z := 0) rfl rfl
            refine m_putfield (u := [(2, pm_upd (pm_upd (pm_ct N 2) 10 3) 12 1)]) (u' := [(2, pm_upd (pm_upd (pm_upd (pm_ct N 2) 10 3) 12 1) 13 0)]) (M := N) lk_70_106 rfl (lay5.on (by decide) rfl) (fun h => absurd h (by decide)) rfl ?_
            refine g_aload_n lk_70_109 rfl ?_
            refine m_getfield (u := [(2, pm_upd (pm_upd (pm_upd (pm_ct N 2) 10 3) 12 1) 13 0)]) (M := N) lk_70_110 rfl (lay6.on (by decide) rfl) (v := 3) rfl ?_
            refine g_iconst lk_70_113 ?_
            refine g_icmp (t := 125) lk_70_114 rfl (by first | (unfold pm_inI; omega) | exact pm_and_in _ _ | exact pm_shr_in _ _ | exact pm_or_in _ _ | exact pm_xor_in _ _ | exact pm_shl_in _ _ | exact pm_cmp_in _ _ | exact pm_b8_in _ | (unfold pm_inI; split <;> omega)) (by first | (unfold pm_inI; omega) | exact pm_and_in _ _ | exact pm_shr_in _ _ | exact pm_or_in _ _ | exact pm_xor_in _ _ | exact pm_shl_in _ _ | exact pm_cmp_in _ _ | exact pm_b8_in _ | (unfold pm_inI; split <;> omega)) (fun h => absurd h (show ¬ ((3 : Int) = (1 : Int)) by omega)) (fun _ => ?_)
            refine g_aload_n lk_70_117 rfl ?_
            refine m_getfield (u := [(2, pm_upd (pm_upd (pm_upd (pm_ct N 2) 10 3) 12 1) 13 0)]) (M := N) lk_70_118 rfl (lay6.on (by decide) rfl) (v := 3) rfl ?_
            refine g_iconst lk_70_121 ?_
            refine g_icmp (t := 129) lk_70_122 rfl (by first | (unfold pm_inI; omega) | exact pm_and_in _ _ | exact pm_shr_in _ _ | exact pm_or_in _ _ | exact pm_xor_in _ _ | exact pm_shl_in _ _ | exact pm_cmp_in _ _ | exact pm_b8_in _ | (unfold pm_inI; split <;> omega)) (by first | (unfold pm_inI; omega) | exact pm_and_in _ _ | exact pm_shr_in _ _ | exact pm_or_in _ _ | exact pm_xor_in _ _ | exact pm_shl_in _ _ | exact pm_cmp_in _ _ | exact pm_b8_in _ | (unfold pm_inI; split <;> omega)) (fun _ => ?_) (fun h => absurd (show ¬ (3 : Int) = (2 : Int) by omega) h)
            refine g_iconst lk_70_129 ?_
            refine g_istore_n (ls' := [(2, ((2 : Nat) : Int)), (0, 0)]) lk_70_130 rfl rfl ?_
            refine g_iload_n lk_70_131 rfl ?_
            refine g_if (t := 207) lk_70_132 rfl (by first | (unfold pm_inI; omega) | exact pm_and_in _ _ | exact pm_shr_in _ _ | exact pm_or_in _ _ | exact pm_xor_in _ _ | exact pm_shl_in _ _ | exact pm_cmp_in _ _ | exact pm_b8_in _ | (unfold pm_inI; split <;> omega)) (fun _ => ?_) (fun h => absurd (show (0 : Int) = (0 : Int) by omega) h)
            exact fk _ _ _ rfl rfl rfl lay6
        · rw [e3] at ko fk
          have ko' : ∀ M : pm_M, pm_E d 71 [(0, y)] M 0 0 (fun ρ M' => ρ = some (0, 4) ∧ M' = M) := ko
          refine g_aload_n lk_70_52 rfl ?_
          refine g_aload_n lk_70_53 rfl ?_
          refine m_getfield (u := []) (M := N) lk_70_54 rfl (lay.on (by decide) rfl) (v := (a : Int)) f11 ?_
          refine g_aload_n lk_70_57 rfl ?_
          refine m_getfield (u := []) (M := N) lk_70_58 rfl (lay.on (by decide) rfl) (v := (n : Int)) f4 ?_
          refine g_icmp (t := 75) lk_70_61 rfl (by first | (unfold pm_inI; omega) | exact pm_and_in _ _ | exact pm_shr_in _ _ | exact pm_or_in _ _ | exact pm_xor_in _ _ | exact pm_shl_in _ _ | exact pm_cmp_in _ _ | exact pm_b8_in _ | (unfold pm_inI; split <;> omega)) (by first | (unfold pm_inI; omega) | exact pm_and_in _ _ | exact pm_shr_in _ _ | exact pm_or_in _ _ | exact pm_xor_in _ _ | exact pm_shl_in _ _ | exact pm_cmp_in _ _ | exact pm_b8_in _ | (unfold pm_inI; split <;> omega)) (fun h1 => ?_) (fun h1 => ?_)
          · replace h1 : (n : Int) ≤ (a : Int) := h1
            omega
          · replace h1 : ¬ ((n : Int) ≤ (a : Int)) := h1
            refine g_aload_n lk_70_64 rfl ?_
            refine g_iconst lk_70_65 ?_
            refine g_virtual (p := 2) (Qc := _) lk_70_66 rfl (Nat.le_of_ble_eq_true rfl) rfl rfl (lay.on (by decide) rfl) (Nat.le_of_ble_eq_true rfl) (Nat.le_of_ble_eq_true rfl) (Nat.zero_le _) (Nat.zero_le _) (sa') ?_
            rintro _ N2 ⟨rfl, hN2⟩
            rw [hN2]
            show Wp _ 70 69 [(2, ((2 : Nat) : Int)), (9, 0)] [(0, y), (2, ((2 : Nat) : Int))] N _ _ _
            refine g_static (Qc := _) lk_70_69 (by decide) rfl (Nat.le_of_ble_eq_true rfl) rfl rfl (Nat.le_of_ble_eq_true rfl) (Nat.le_of_ble_eq_true rfl) (Nat.zero_le _) (Nat.zero_le _) (ko' _) ?_
            rintro _ N3 ⟨rfl, hN3⟩
            rw [hN3]
            show Wp _ 70 72 [(2, ((2 : Nat) : Int)), (9, 0)] [(0, 4), (2, ((2 : Nat) : Int))] N _ _ _
            refine g_goto (t := 76) lk_70_72 rfl ?_
            have lay4 : Lay (Mu [(2, pm_upd (pm_ct N 2) 10 4)] N) := lay.muF (l := []) (a := 2) (k := 10) (z := 4) rfl rfl
            refine m_putfield (u := []) (u' := [(2, pm_upd (pm_ct N 2) 10 4)]) (M := N) lk_70_76 rfl (lay.on (by decide) rfl) (fun h => absurd h (by decide)) rfl ?_
            refine g_aload_n lk_70_79 rfl ?_
            refine g_aload_n lk_70_80 rfl ?_
            refine m_getfield (u := [(2, pm_upd (pm_ct N 2) 10 4)]) (M := N) lk_70_81 rfl (lay4.on (by decide) rfl) (v := 4) rfl ?_
            refine g_iconst lk_70_84 ?_
            refine g_icmp (t := 96) lk_70_85 rfl (by first | (unfold pm_inI; omega) | exact pm_and_in _ _ | exact pm_shr_in _ _ | exact pm_or_in _ _ | exact pm_xor_in _ _ | exact pm_shl_in _ _ | exact pm_cmp_in _ _ | exact pm_b8_in _ | (unfold pm_inI; split <;> omega)) (by first | (unfold pm_inI; omega) | exact pm_and_in _ _ | exact pm_shr_in _ _ | exact pm_or_in _ _ | exact pm_xor_in _ _ | exact pm_shl_in _ _ | exact pm_cmp_in _ _ | exact pm_b8_in _ | (unfold pm_inI; split <;> omega)) (fun h => absurd h (show ¬ ((4 : Int) = (3 : Int)) by omega)) (fun _ => ?_)
            refine g_aload_n lk_70_88 rfl ?_
            refine m_getfield (u := [(2, pm_upd (pm_ct N 2) 10 4)]) (M := N) lk_70_89 rfl (lay4.on (by decide) rfl) (v := 4) rfl ?_
            refine g_iconst lk_70_92 ?_
            refine g_icmp (t := 100) lk_70_93 rfl (by first | (unfold pm_inI; omega) | exact pm_and_in _ _ | exact pm_shr_in _ _ | exact pm_or_in _ _ | exact pm_xor_in _ _ | exact pm_shl_in _ _ | exact pm_cmp_in _ _ | exact pm_b8_in _ | (unfold pm_inI; split <;> omega)) (by first | (unfold pm_inI; omega) | exact pm_and_in _ _ | exact pm_shr_in _ _ | exact pm_or_in _ _ | exact pm_xor_in _ _ | exact pm_shl_in _ _ | exact pm_cmp_in _ _ | exact pm_b8_in _ | (unfold pm_inI; split <;> omega)) (fun h => absurd h (show ¬ (¬ (4 : Int) = (4 : Int)) by omega)) (fun _ => ?_)
            refine g_iconst lk_70_96 ?_
            refine g_goto (t := 101) lk_70_97 rfl ?_
            have lay5 : Lay (Mu [(2, pm_upd (pm_upd (pm_ct N 2) 10 4) 12 1)] N) := lay4.muF (l := [(2, pm_upd (pm_ct N 2) 10 4)]) (a := 2) (k := 12) (z := 1) rfl rfl
            refine m_putfield (u := [(2, pm_upd (pm_ct N 2) 10 4)]) (u' := [(2, pm_upd (pm_upd (pm_ct N 2) 10 4) 12 1)]) (M := N) lk_70_101 rfl (lay4.on (by decide) rfl) (fun h => absurd h (by decide)) rfl ?_
            refine g_aload_n lk_70_104 rfl ?_
            refine g_iconst lk_70_105 ?_
            have lay6 : Lay (Mu [(2, pm_upd (pm_upd (pm_upd (pm_ct N 2) 10 4) 12 1) 13 0)] N) := lay5.muF (l := [(2, pm_upd (pm_upd (pm_ct N 2) 10 4) 12 1)]) (a := 2) (k := 13) (z := 0) rfl rfl
            refine m_putfield (u := [(2, pm_upd (pm_upd (pm_ct N 2) 10 4) 12 1)]) (u' := [(2, pm_upd (pm_upd (pm_upd (pm_ct N 2) 10 4) 12 1) 13 0)]) (M := N) lk_70_106 rfl (lay5.on (by decide) rfl) (fun h => absurd h (by decide)) rfl ?_
            refine g_aload_n lk_70_109 rfl ?_
            refine m_getfield (u := [(2, pm_upd (pm_upd (pm_upd (pm_ct N 2) 10 4) 12 1) 13 0)]) (M := N) lk_70_110 rfl (lay6.on (by decide) rfl) (v := 4) rfl ?_
            refine g_iconst lk_70_113 ?_
            refine g_icmp (t := 125) lk_70_114 rfl (by first | (unfold pm_inI; omega) | exact pm_and_in _ _ | exact pm_shr_in _ _ | exact pm_or_in _ _ | exact pm_xor_in _ _ | exact pm_shl_in _ _ | exact pm_cmp_in _ _ | exact pm_b8_in _ | (unfold pm_inI; split <;> omega)) (by first | (unfold pm_inI; omega) | exact pm_and_in _ _ | exact pm_shr_in _ _ | exact pm_or_in _ _ | exact pm_xor_in _ _ | exact pm_shl_in _ _ | exact pm_cmp_in _ _ | exact pm_b8_in _ | (unfold pm_inI; split <;> omega)) (fun h => absurd h (show ¬ ((4 : Int) = (1 : Int)) by omega)) (fun _ => ?_)
            refine g_aload_n lk_70_117 rfl ?_
            refine m_getfield (u := [(2, pm_upd (pm_upd (pm_upd (pm_ct N 2) 10 4) 12 1) 13 0)]) (M := N) lk_70_118 rfl (lay6.on (by decide) rfl) (v := 4) rfl ?_
            refine g_iconst lk_70_121 ?_
            refine g_icmp (t := 129) lk_70_122 rfl (by first | (unfold pm_inI; omega) | exact pm_and_in _ _ | exact pm_shr_in _ _ | exact pm_or_in _ _ | exact pm_xor_in _ _ | exact pm_shl_in _ _ | exact pm_cmp_in _ _ | exact pm_b8_in _ | (unfold pm_inI; split <;> omega)) (by first | (unfold pm_inI; omega) | exact pm_and_in _ _ | exact pm_shr_in _ _ | exact pm_or_in _ _ | exact pm_xor_in _ _ | exact pm_shl_in _ _ | exact pm_cmp_in _ _ | exact pm_b8_in _ | (unfold pm_inI; split <;> omega)) (fun _ => ?_) (fun h => absurd (show ¬ (4 : Int) = (2 : Int) by omega) h)
            refine g_iconst lk_70_129 ?_
            refine g_istore_n (ls' := [(2, ((2 : Nat) : Int)), (0, 0)]) lk_70_130 rfl rfl ?_
            refine g_iload_n lk_70_131 rfl ?_
            refine g_if (t := 207) lk_70_132 rfl (by first | (unfold pm_inI; omega) | exact pm_and_in _ _ | exact pm_shr_in _ _ | exact pm_or_in _ _ | exact pm_xor_in _ _ | exact pm_shl_in _ _ | exact pm_cmp_in _ _ | exact pm_b8_in _ | (unfold pm_inI; split <;> omega)) (fun _ => ?_) (fun h => absurd (show (0 : Int) = (0 : Int) by omega) h)
            exact fk _ _ _ rfl rfl rfl lay6
      · have gw := fun z1 z2 z3 (h1 : z1 = (kdc (ch a) : Int)) (h2 : z2 = 0) (h3 : z3 = 0) (l : Lay (Mu [(2, pm_upd (pm_upd (pm_upd (pm_ct N 2) 10 z1) 12 z2) 13 z3)] N)) => grow (kdc (ch a)) (by omega) (by omega) rfl 500 0 (Mu [(2, pm_upd (pm_upd (pm_upd (pm_ct N 2) 10 z1) 12 z2) 13 z3)] N) 0 (by omega) (by omega) rfl (fun i q1 q2 => by omega) l (rfu z1 z2 z3) (by rw [Mu_ct]; exact f11) (by rw [Mu_ct]; exact h1) (by rw [Mu_ct]; exact h2) (by rw [Mu_ct]; exact h3) (fun _ => rfl)
        rcases (by omega : kdc (ch a) = 1 ∨ kdc (ch a) = 2) with e3 | e3
        · rw [e3] at ko gw
          have ko' : ∀ M : pm_M, pm_E d 71 [(0, y)] M 0 0 (fun ρ M' => ρ = some (0, 1) ∧ M' = M) := ko
          refine g_aload_n lk_70_52 rfl ?_
          refine g_aload_n lk_70_53 rfl ?_
          refine m_getfield (u := []) (M := N) lk_70_54 rfl (lay.on (by decide) rfl) (v := (a : Int)) f11 ?_
          refine g_aload_n lk_70_57 rfl ?_
          refine m_getfield (u := []) (M := N) lk_70_58 rfl (lay.on (by decide) rfl) (v := (n : Int)) f4 ?_
          refine g_icmp (t := 75) lk_70_61 rfl (by first | (unfold pm_inI; omega) | exact pm_and_in _ _ | exact pm_shr_in _ _ | exact pm_or_in _ _ | exact pm_xor_in _ _ | exact pm_shl_in _ _ | exact pm_cmp_in _ _ | exact pm_b8_in _ | (unfold pm_inI; split <;> omega)) (by first | (unfold pm_inI; omega) | exact pm_and_in _ _ | exact pm_shr_in _ _ | exact pm_or_in _ _ | exact pm_xor_in _ _ | exact pm_shl_in _ _ | exact pm_cmp_in _ _ | exact pm_b8_in _ | (unfold pm_inI; split <;> omega)) (fun h1 => ?_) (fun h1 => ?_)
          · replace h1 : (n : Int) ≤ (a : Int) := h1
            omega
          · replace h1 : ¬ ((n : Int) ≤ (a : Int)) := h1
            refine g_aload_n lk_70_64 rfl ?_
            refine g_iconst lk_70_65 ?_
            refine g_virtual (p := 2) (Qc := _) lk_70_66 rfl (Nat.le_of_ble_eq_true rfl) rfl rfl (lay.on (by decide) rfl) (Nat.le_of_ble_eq_true rfl) (Nat.le_of_ble_eq_true rfl) (Nat.zero_le _) (Nat.zero_le _) (sa') ?_
            rintro _ N2 ⟨rfl, hN2⟩
            rw [hN2]
            show Wp _ 70 69 [(2, ((2 : Nat) : Int)), (9, 0)] [(0, y), (2, ((2 : Nat) : Int))] N _ _ _
            refine g_static (Qc := _) lk_70_69 (by decide) rfl (Nat.le_of_ble_eq_true rfl) rfl rfl (Nat.le_of_ble_eq_true rfl) (Nat.le_of_ble_eq_true rfl) (Nat.zero_le _) (Nat.zero_le _) (ko' _) ?_
            rintro _ N3 ⟨rfl, hN3⟩
            rw [hN3]
            show Wp _ 70 72 [(2, ((2 : Nat) : Int)), (9, 0)] [(0, 1), (2, ((2 : Nat) : Int))] N _ _ _
            refine g_goto (t := 76) lk_70_72 rfl ?_
            have lay4 : Lay (Mu [(2, pm_upd (pm_ct N 2) 10 1)] N) := lay.muF (l := []) (a := 2) (k := 10) (z := 1) rfl rfl
            refine m_putfield (u := []) (u' := [(2, pm_upd (pm_ct N 2) 10 1)]) (M := N) lk_70_76 rfl (lay.on (by decide) rfl) (fun h => absurd h (by decide)) rfl ?_
            refine g_aload_n lk_70_79 rfl ?_
            refine g_aload_n lk_70_80 rfl ?_
            refine m_getfield (u := [(2, pm_upd (pm_ct N 2) 10 1)]) (M := N) lk_70_81 rfl (lay4.on (by decide) rfl) (v := 1) rfl ?_
            refine g_iconst lk_70_84 ?_
            refine g_icmp (t := 96) lk_70_85 rfl (by first | (unfold pm_inI; omega) | exact pm_and_in _ _ | exact pm_shr_in _ _ | exact pm_or_in _ _ | exact pm_xor_in _ _ | exact pm_shl_in _ _ | exact pm_cmp_in _ _ | exact pm_b8_in _ | (unfold pm_inI; split <;> omega)) (by first | (unfold pm_inI; omega) | exact pm_and_in _ _ | exact pm_shr_in _ _ | exact pm_or_in _ _ | exact pm_xor_in _ _ | exact pm_shl_in _ _ | exact pm_cmp_in _ _ | exact pm_b8_in _ | (unfold pm_inI; split <;> omega)) (fun h => absurd h (show ¬ ((1 : Int) = (3 : Int)) by omega)) (fun _ => ?_)
            refine g_aload_n lk_70_88 rfl ?_
            refine m_getfield (u := [(2, pm_upd (pm_ct N 2) 10 1)]) (M := N) lk_70_89 rfl (lay4.on (by decide) rfl) (v := 1) rfl ?_
            refine g_iconst lk_70_92 ?_
            refine g_icmp (t := 100) lk_70_93 rfl (by first | (unfold pm_inI; omega) | exact pm_and_in _ _ | exact pm_shr_in _ _ | exact pm_or_in _ _ | exact pm_xor_in _ _ | exact pm_shl_in _ _ | exact pm_cmp_in _ _ | exact pm_b8_in _ | (unfold pm_inI; split <;> omega)) (by first | (unfold pm_inI; omega) | exact pm_and_in _ _ | exact pm_shr_in _ _ | exact pm_or_in _ _ | exact pm_xor_in _ _ | exact pm_shl_in _ _ | exact pm_cmp_in _ _ | exact pm_b8_in _ | (unfold pm_inI; split <;> omega)) (fun _ => ?_) (fun h => absurd (show ¬ (1 : Int) = (4 : Int) by omega) h)
            refine g_iconst lk_70_100 ?_
            have lay5 : Lay (Mu [(2, pm_upd (pm_upd (pm_ct N 2) 10 1) 12 0)] N) := lay4.muF (l := [(2, pm_upd (pm_ct N 2) 10 1)]) (a := 2) (k := 12) (z := 0) rfl rfl
            refine m_putfield (u := [(2, pm_upd (pm_ct N 2) 10 1)]) (u' := [(2, pm_upd (pm_upd (pm_ct N 2) 10 1) 12 0)]) (M := N) lk_70_101 rfl (lay4.on (by decide) rfl) (fun h => absurd h (by decide)) rfl ?_
            refine g_aload_n lk_70_104 rfl ?_
            refine g_iconst lk_70_105 ?_
            have lay6 : Lay (Mu [(2, pm_upd (pm_upd (pm_upd (pm_ct N 2) 10 1) 12 0) 13 0)] N) := lay5.muF (l := [(2, pm_upd (pm_upd (pm_ct N 2) 10 1) 12 0)]) (a := 2) (k := 13) (z := 0) rfl rfl
            refine m_putfield (u := [(2, pm_upd (pm_upd (pm_ct N 2) 10 1) 12 0)]) (u' := [(2, pm_upd (pm_upd (pm_upd (pm_ct N 2) 10 1) 12 0) 13 0)]) (M := N) lk_70_106 rfl (lay5.on (by decide) rfl) (fun h => absurd h (by decide)) rfl ?_
            refine g_aload_n lk_70_109 rfl ?_
            refine m_getfield (u := [(2, pm_upd (pm_upd (pm_upd (pm_ct N 2) 10 1) 12 0) 13 0)]) (M := N) lk_70_110 rfl (lay6.on (by decide) rfl) (v := 1) rfl ?_
            refine g_iconst lk_70_113 ?_
            refine g_icmp (t := 125) lk_70_114 rfl (by first | (unfold pm_inI; omega) | exact pm_and_in _ _ | exact pm_shr_in _ _ | exact pm_or_in _ _ | exact pm_xor_in _ _ | exact pm_shl_in _ _ | exact pm_cmp_in _ _ | exact pm_b8_in _ | (unfold pm_inI; split <;> omega)) (by first | (unfold pm_inI; omega) | exact pm_and_in _ _ | exact pm_shr_in _ _ | exact pm_or_in _ _ | exact pm_xor_in _ _ | exact pm_shl_in _ _ | exact pm_cmp_in _ _ | exact pm_b8_in _ | (unfold pm_inI; split <;> omega)) (fun _ => ?_) (fun h => absurd (show (1 : Int) = (1 : Int) by omega) h)
            refine g_iconst lk_70_125 ?_
            refine g_goto (t := 130) lk_70_126 rfl ?_
            refine g_istore_n (ls' := [(2, ((2 : Nat) : Int)), (0, 1)]) lk_70_130 rfl rfl ?_
            exact gw _ _ _ rfl rfl rfl lay6
        · rw [e3] at ko gw
          have ko' : ∀ M : pm_M, pm_E d 71 [(0, y)] M 0 0 (fun ρ M' => ρ = some (0, 2) ∧ M' = M) := ko
          refine g_aload_n lk_70_52 rfl ?_
          refine g_aload_n lk_70_53 rfl ?_
          refine m_getfield (u := []) (M := N) lk_70_54 rfl (lay.on (by decide) rfl) (v := (a : Int)) f11 ?_
          refine g_aload_n lk_70_57 rfl ?_
          refine m_getfield (u := []) (M := N) lk_70_58 rfl (lay.on (by decide) rfl) (v := (n : Int)) f4 ?_
          refine g_icmp (t := 75) lk_70_61 rfl (by first | (unfold pm_inI; omega) | exact pm_and_in _ _ | exact pm_shr_in _ _ | exact pm_or_in _ _ | exact pm_xor_in _ _ | exact pm_shl_in _ _ | exact pm_cmp_in _ _ | exact pm_b8_in _ | (unfold pm_inI; split <;> omega)) (by first | (unfold pm_inI; omega) | exact pm_and_in _ _ | exact pm_shr_in _ _ | exact pm_or_in _ _ | exact pm_xor_in _ _ | exact pm_shl_in _ _ | exact pm_cmp_in _ _ | exact pm_b8_in _ | (unfold pm_inI; split <;> omega)) (fun h1 => ?_) (fun h1 => ?_)
          · replace h1 : (n : Int) ≤ (a : Int) := h1
            omega
          · replace h1 : ¬ ((n : Int) ≤ (a : Int)) := h1
            refine g_aload_n lk_70_64 rfl ?_
            refine g_iconst lk_70_65 ?_
            refine g_virtual (p := 2) (Qc := _) lk_70_66 rfl (Nat.le_of_ble_eq_true rfl) rfl rfl (lay.on (by decide) rfl) (Nat.le_of_ble_eq_true rfl) (Nat.le_of_ble_eq_true rfl) (Nat.zero_le _) (Nat.zero_le _) (sa') ?_
            rintro _ N2 ⟨rfl, hN2⟩
            rw [hN2]
            show Wp _ 70 69 [(2, ((2 : Nat) : Int)), (9, 0)] [(0, y), (2, ((2 : Nat) : Int))] N _ _ _
            refine g_static (Qc := _) lk_70_69 (by decide) rfl (Nat.le_of_ble_eq_true rfl) rfl rfl (Nat.le_of_ble_eq_true rfl) (Nat.le_of_ble_eq_true rfl) (Nat.zero_le _) (Nat.zero_le _) (ko' _) ?_
            rintro _ N3 ⟨rfl, hN3⟩
            rw [hN3]
            show Wp _ 70 72 [(2, ((2 : Nat) : Int)), (9, 0)] [(0, 2), (2, ((2 : Nat) : Int))] N _ _ _
            refine g_goto (t := 76) lk_70_72 rfl ?_
            have lay4 : Lay (Mu [(2, pm_upd (pm_ct N 2) 10 2)] N) := lay.muF (l := []) (a := 2) (k := 10) (z := 2) rfl rfl
            refine m_putfield (u := []) (u' := [(2, pm_upd (pm_ct N 2) 10 2)]) (M := N) lk_70_76 rfl (lay.on (by decide) rfl) (fun h => absurd h (by decide)) rfl ?_
            refine g_aload_n lk_70_79 rfl ?_
            refine g_aload_n lk_70_80 rfl ?_
            refine m_getfield (u := [(2, pm_upd (pm_ct N 2) 10 2)]) (M := N) lk_70_81 rfl (lay4.on (by decide) rfl) (v := 2) rfl ?_
            refine g_iconst lk_70_84 ?_
            refine g_icmp (t := 96) lk_70_85 rfl (by first | (unfold pm_inI; omega) | exact pm_and_in _ _ | exact pm_shr_in _ _ | exact pm_or_in _ _ | exact pm_xor_in _ _ | exact pm_shl_in _ _ | exact pm_cmp_in _ _ | exact pm_b8_in _ | (unfold pm_inI; split <;> omega)) (by first | (unfold pm_inI; omega) | exact pm_and_in _ _ | exact pm_shr_in _ _ | exact pm_or_in _ _ | exact pm_xor_in _ _ | exact pm_shl_in _ _ | exact pm_cmp_in _ _ | exact pm_b8_in _ | (unfold pm_inI; split <;> omega)) (fun h => absurd h (show ¬ ((2 : Int) = (3 : Int)) by omega)) (fun _ => ?_)
            refine g_aload_n lk_70_88 rfl ?_
            refine m_getfield (u := [(2, pm_upd (pm_ct N 2) 10 2)]) (M := N) lk_70_89 rfl (lay4.on (by decide) rfl) (v := 2) rfl ?_
            refine g_iconst lk_70_92 ?_
            refine g_icmp (t := 100) lk_70_93 rfl (by first | (unfold pm_inI; omega) | exact pm_and_in _ _ | exact pm_shr_in _ _ | exact pm_or_in _ _ | exact pm_xor_in _ _ | exact pm_shl_in _ _ | exact pm_cmp_in _ _ | exact pm_b8_in _ | (unfold pm_inI; split <;> omega)) (by first | (unfold pm_inI; omega) | exact pm_and_in _ _ | exact pm_shr_in _ _ | exact pm_or_in _ _ | exact pm_xor_in _ _ | exact pm_shl_in _ _ | exact pm_cmp_in _ _ | exact pm_b8_in _ | (unfold pm_inI; split <;> omega)) (fun _ => ?_) (fun h => absurd (show ¬ (2 : Int) = (4 : Int) by omega) h)
            refine g_iconst lk_70_100 ?_
            have lay5 : Lay (Mu [(2, pm_upd (pm_upd (pm_ct N 2) 10 2) 12 0)] N) := lay4.muF (l := [(2, pm_upd (pm_ct N 2) 10 2)]) (a := 2) (k := 12) (z := 0) rfl rfl
            refine m_putfield (u := [(2, pm_upd (pm_ct N 2) 10 2)]) (u' := [(2, pm_upd (pm_upd (pm_ct N 2) 10 2) 12 0)]) (M := N) lk_70_101 rfl (lay4.on (by decide) rfl) (fun h => absurd h (by decide)) rfl ?_
            refine g_aload_n lk_70_104 rfl ?_
            refine g_iconst lk_70_105 ?_
            have lay6 : Lay (Mu [(2, pm_upd (pm_upd (pm_upd (pm_ct N 2) 10 2) 12 0) 13 0)] N) := lay5.muF (l := [(2, pm_upd (pm_upd (pm_ct N 2) 10 2) 12 0)]) (a := 2) (k := 13) (z := 0) rfl rfl
            refine m_putfield (u := [(2, pm_upd (pm_upd (pm_ct N 2) 10 2) 12 0)]) (u' := [(2, pm_upd (pm_upd (pm_upd (pm_ct N 2) 10 2) 12 0) 13 0)]) (M := N) lk_70_106 rfl (lay5.on (by decide) rfl) (fun h => absurd h (by decide)) rfl ?_
            refine g_aload_n lk_70_109 rfl ?_
            refine m_getfield (u := [(2, pm_upd (pm_upd (pm_upd (pm_ct N 2) 10 2) 12 0) 13 0)]) (M := N) lk_70_110 rfl (lay6.on (by decide) rfl) (v := 2) rfl ?_
            refine g_iconst lk_70_113 ?_
            refine g_icmp (t := 125) lk_70_114 rfl (by first | (unfold pm_inI; omega) | exact pm_and_in _ _ | exact pm_shr_in _ _ | exact pm_or_in _ _ | exact pm_xor_in _ _ | exact pm_shl_in _ _ | exact pm_cmp_in _ _ | exact pm_b8_in _ | (unfold pm_inI; split <;> omega)) (by first | (unfold pm_inI; omega) | exact pm_and_in _ _ | exact pm_shr_in _ _ | exact pm_or_in _ _ | exact pm_xor_in _ _ | exact pm_shl_in _ _ | exact pm_cmp_in _ _ | exact pm_b8_in _ | (unfold pm_inI; split <;> omega)) (fun h => absurd h (show ¬ ((2 : Int) = (1 : Int)) by omega)) (fun _ => ?_)
            refine g_aload_n lk_70_117 rfl ?_
            refine m_getfield (u := [(2, pm_upd (pm_upd (pm_upd (pm_ct N 2) 10 2) 12 0) 13 0)]) (M := N) lk_70_118 rfl (lay6.on (by decide) rfl) (v := 2) rfl ?_
            refine g_iconst lk_70_121 ?_
            refine g_icmp (t := 129) lk_70_122 rfl (by first | (unfold pm_inI; omega) | exact pm_and_in _ _ | exact pm_shr_in _ _ | exact pm_or_in _ _ | exact pm_xor_in _ _ | exact pm_shl_in _ _ | exact pm_cmp_in _ _ | exact pm_b8_in _ | (unfold pm_inI; split <;> omega)) (by first | (unfold pm_inI; omega) | exact pm_and_in _ _ | exact pm_shr_in _ _ | exact pm_or_in _ _ | exact pm_xor_in _ _ | exact pm_shl_in _ _ | exact pm_cmp_in _ _ | exact pm_b8_in _ | (unfold pm_inI; split <;> omega)) (fun h => absurd h (show ¬ (¬ (2 : Int) = (2 : Int)) by omega)) (fun _ => ?_)
            refine g_iconst lk_70_125 ?_
            refine g_goto (t := 130) lk_70_126 rfl ?_
            refine g_istore_n (ls' := [(2, ((2 : Nat) : Int)), (0, 1)]) lk_70_130 rfl rfl ?_
            exact gw _ _ _ rfl rfl rfl lay6
  have skip : ∀ (k q : Nat) (N : pm_M), q ≤ n → n ≤ q + k → a = skp ch n k q → Lay N → RdF M N → pm_ct N 2 11 = (q : Int) → Wp (d + 1) 70 8 [(2, ((2 : Nat) : Int)), (9, 0)] [] N mc ms Q := by
    intro k
    induction k with
    | zero =>
      intro q N qn hq haq lay rf f11
      have f4 := (hM0.rd rf).2.1
      have e : a = q := haq
      rw [← e] at f11
      refine g_aload_n lk_70_8 rfl ?_
      refine m_getfield (u := []) (M := N) lk_70_9 rfl (lay.on (by decide) rfl) (v := (a : Int)) f11 ?_
      refine g_aload_n lk_70_12 rfl ?_
      refine m_getfield (u := []) (M := N) lk_70_13 rfl (lay.on (by decide) rfl) (v := (n : Int)) f4 ?_
      refine g_icmp (t := 52) lk_70_16 rfl (by first | (unfold pm_inI; omega) | exact pm_and_in _ _ | exact pm_shr_in _ _ | exact pm_or_in _ _ | exact pm_xor_in _ _ | exact pm_shl_in _ _ | exact pm_cmp_in _ _ | exact pm_b8_in _ | (unfold pm_inI; split <;> omega)) (by first | (unfold pm_inI; omega) | exact pm_and_in _ _ | exact pm_shr_in _ _ | exact pm_or_in _ _ | exact pm_xor_in _ _ | exact pm_shl_in _ _ | exact pm_cmp_in _ _ | exact pm_b8_in _ | (unfold pm_inI; split <;> omega)) (fun h1 => ?_) (fun h1 => ?_)
      · replace h1 : (n : Int) ≤ (a : Int) := h1
        exact k52 N lay rf f11
      · replace h1 : ¬ ((n : Int) ≤ (a : Int)) := h1
        omega
    | succ k ih =>
      intro q N qn hq haq lay rf f11
      have tc := hM0.rd rf
      have f4 := tc.2.1
      replace haq : a = if q < n ∧ (ch q = 32 ∨ ch q = 10) then skp ch n k (q + 1) else q := haq
      by_cases e1 : q < n
      · have c256 := (hM0.2.2 q e1).1
        have sa := c_Reader_signAt (d := d) (mc := 0) (ms := 0) lay tc f11 (by omega) (i := 0) (by omega)
        rw [if_pos (show q + 0 < n by omega), Nat.add_zero] at sa
        have sa' : pm_E d 69 [(2, ((2 : Nat) : Int)), (0, 0)] N 0 0 (fun ρ M' => ρ = some (0, sgn (ch q)) ∧ M' = N) := sa
        have hs := sgn_r c256
        obtain ⟨y, hy⟩ : ∃ y, y = sgn (ch q) := ⟨_, rfl⟩
        rw [← hy] at sa' hs
        obtain ⟨c, hc⟩ : ∃ c, c = ch q := ⟨_, rfl⟩
        rw [← hc] at hs haq c256
        have nx := fun N' => ih (q + 1) N' (by omega) (by omega)
        clear ih
        by_cases e2 : c = 32 ∨ c = 10
        · rw [if_pos ⟨e1, e2⟩] at haq
          have go : ∀ (N' : pm_M) (z : Int), N' = Mu [(2, pm_upd (pm_ct N 2) 11 z)] N → Lay N' → z = ((q + 1 : Nat) : Int) → Wp (d + 1) 70 8 [(2, ((2 : Nat) : Int)), (9, 0)] [] N' mc ms Q := fun N' z hN' l1 hz => by
            refine nx N' haq l1 ?_ ?_
            · rw [hN']
              exact rf.trans (RdF.mu (fun k hk => by simp at hk; rw [pm_upd_ne (by omega)]))
            · rw [hN', Mu_ct, ← hz]; rfl
          refine g_aload_n lk_70_8 rfl ?_
          refine m_getfield (u := []) (M := N) lk_70_9 rfl (lay.on (by decide) rfl) (v := (q : Int)) f11 ?_
          refine g_aload_n lk_70_12 rfl ?_
          refine m_getfield (u := []) (M := N) lk_70_13 rfl (lay.on (by decide) rfl) (v := (n : Int)) f4 ?_
          refine g_icmp (t := 52) lk_70_16 rfl (by first | (unfold pm_inI; omega) | exact pm_and_in _ _ | exact pm_shr_in _ _ | exact pm_or_in _ _ | exact pm_xor_in _ _ | exact pm_shl_in _ _ | exact pm_cmp_in _ _ | exact pm_b8_in _ | (unfold pm_inI; split <;> omega)) (by first | (unfold pm_inI; omega) | exact pm_and_in _ _ | exact pm_shr_in _ _ | exact pm_or_in _ _ | exact pm_xor_in _ _ | exact pm_shl_in _ _ | exact pm_cmp_in _ _ | exact pm_b8_in _ | (unfold pm_inI; split <;> omega)) (fun h1 => ?_) (fun h1 => ?_)
          · replace h1 : (n : Int) ≤ (q : Int) := h1
            omega
          · replace h1 : ¬ ((n : Int) ≤ (q : Int)) := h1
            refine g_aload_n lk_70_19 rfl ?_
            refine g_iconst lk_70_20 ?_
            refine g_virtual (p := 2) (Qc := _) lk_70_21 rfl (Nat.le_of_ble_eq_true rfl) rfl rfl (lay.on (by decide) rfl) (Nat.le_of_ble_eq_true rfl) (Nat.le_of_ble_eq_true rfl) (Nat.zero_le _) (Nat.zero_le _) (sa') ?_
            rintro _ N2 ⟨rfl, hN2⟩
            rw [hN2]
            show Wp _ 70 24 [(2, ((2 : Nat) : Int)), (9, 0)] [(0, y)] N _ _ _
            refine g_bipush lk_70_24 ?_
            refine g_icmp (t := 39) lk_70_26 rfl (by first | (unfold pm_inI; omega) | exact pm_and_in _ _ | exact pm_shr_in _ _ | exact pm_or_in _ _ | exact pm_xor_in _ _ | exact pm_shl_in _ _ | exact pm_cmp_in _ _ | exact pm_b8_in _ | (unfold pm_inI; split <;> omega)) (by first | (unfold pm_inI; omega) | exact pm_and_in _ _ | exact pm_shr_in _ _ | exact pm_or_in _ _ | exact pm_xor_in _ _ | exact pm_shl_in _ _ | exact pm_cmp_in _ _ | exact pm_b8_in _ | (unfold pm_inI; split <;> omega)) (fun h3 => ?_) (fun h3 => ?_)
            · replace h3 : y = 32 := h3
              refine g_aload_n lk_70_39 rfl ?_
              refine g_dup lk_70_40 rfl ?_
              refine m_getfield (u := []) (M := N) lk_70_41 rfl (lay.on (by decide) rfl) (v := (q : Int)) f11 ?_
              refine g_iconst lk_70_44 ?_
              refine g_iadd lk_70_45 ?_
              have lay4 : Lay (Mu [(2, pm_upd (pm_ct N 2) 11 ((q : Int) + 1))] N) := lay.muF (l := []) (a := 2) (k := 11) (z := ((q : Int) + 1)) rfl rfl
              refine m_putfield (u := []) (u' := [(2, pm_upd (pm_ct N 2) 11 ((q : Int) + 1))]) (M := N) lk_70_46 rfl (lay.on (by decide) rfl) (fun h => absurd h (by decide)) rfl ?_
              refine g_goto (t := 8) lk_70_49 rfl ?_
              exact go _ _ rfl lay4 (by omega)
            · replace h3 : ¬ (y = 32) := h3
              refine g_aload_n lk_70_29 rfl ?_
              refine g_iconst lk_70_30 ?_
              refine g_virtual (p := 2) (Qc := _) lk_70_31 rfl (Nat.le_of_ble_eq_true rfl) rfl rfl (lay.on (by decide) rfl) (Nat.le_of_ble_eq_true rfl) (Nat.le_of_ble_eq_true rfl) (Nat.zero_le _) (Nat.zero_le _) (sa') ?_
              rintro _ N5 ⟨rfl, hN5⟩
              rw [hN5]
              show Wp _ 70 34 [(2, ((2 : Nat) : Int)), (9, 0)] [(0, y)] N _ _ _
              refine g_bipush lk_70_34 ?_
              refine g_icmp (t := 52) lk_70_36 rfl (by first | (unfold pm_inI; omega) | exact pm_and_in _ _ | exact pm_shr_in _ _ | exact pm_or_in _ _ | exact pm_xor_in _ _ | exact pm_shl_in _ _ | exact pm_cmp_in _ _ | exact pm_b8_in _ | (unfold pm_inI; split <;> omega)) (by first | (unfold pm_inI; omega) | exact pm_and_in _ _ | exact pm_shr_in _ _ | exact pm_or_in _ _ | exact pm_xor_in _ _ | exact pm_shl_in _ _ | exact pm_cmp_in _ _ | exact pm_b8_in _ | (unfold pm_inI; split <;> omega)) (fun h6 => ?_) (fun h6 => ?_)
              · replace h6 : ¬ y = 10 := h6
                omega
              · replace h6 : ¬ (¬ y = 10) := h6
                refine g_aload_n lk_70_39 rfl ?_
                refine g_dup lk_70_40 rfl ?_
                refine m_getfield (u := []) (M := N) lk_70_41 rfl (lay.on (by decide) rfl) (v := (q : Int)) f11 ?_
                refine g_iconst lk_70_44 ?_
                refine g_iadd lk_70_45 ?_
                have lay7 : Lay (Mu [(2, pm_upd (pm_ct N 2) 11 ((q : Int) + 1))] N) := lay.muF (l := []) (a := 2) (k := 11) (z := ((q : Int) + 1)) rfl rfl
                refine m_putfield (u := []) (u' := [(2, pm_upd (pm_ct N 2) 11 ((q : Int) + 1))]) (M := N) lk_70_46 rfl (lay.on (by decide) rfl) (fun h => absurd h (by decide)) rfl ?_
                refine g_goto (t := 8) lk_70_49 rfl ?_
                exact go _ _ rfl lay7 (by omega)
        · rw [if_neg (fun w => e2 w.2)] at haq
          rw [← haq] at f11 e1
          refine g_aload_n lk_70_8 rfl ?_
          refine m_getfield (u := []) (M := N) lk_70_9 rfl (lay.on (by decide) rfl) (v := (a : Int)) f11 ?_
          refine g_aload_n lk_70_12 rfl ?_
          refine m_getfield (u := []) (M := N) lk_70_13 rfl (lay.on (by decide) rfl) (v := (n : Int)) f4 ?_
          refine g_icmp (t := 52) lk_70_16 rfl (by first | (unfold pm_inI; omega) | exact pm_and_in _ _ | exact pm_shr_in _ _ | exact pm_or_in _ _ | exact pm_xor_in _ _ | exact pm_shl_in _ _ | exact pm_cmp_in _ _ | exact pm_b8_in _ | (unfold pm_inI; split <;> omega)) (by first | (unfold pm_inI; omega) | exact pm_and_in _ _ | exact pm_shr_in _ _ | exact pm_or_in _ _ | exact pm_xor_in _ _ | exact pm_shl_in _ _ | exact pm_cmp_in _ _ | exact pm_b8_in _ | (unfold pm_inI; split <;> omega)) (fun h1 => ?_) (fun h1 => ?_)
          · replace h1 : (n : Int) ≤ (a : Int) := h1
            exact k52 N lay rf f11
          · replace h1 : ¬ ((n : Int) ≤ (a : Int)) := h1
            refine g_aload_n lk_70_19 rfl ?_
            refine g_iconst lk_70_20 ?_
            refine g_virtual (p := 2) (Qc := _) lk_70_21 rfl (Nat.le_of_ble_eq_true rfl) rfl rfl (lay.on (by decide) rfl) (Nat.le_of_ble_eq_true rfl) (Nat.le_of_ble_eq_true rfl) (Nat.zero_le _) (Nat.zero_le _) (sa') ?_
            rintro _ N2 ⟨rfl, hN2⟩
            rw [hN2]
            show Wp _ 70 24 [(2, ((2 : Nat) : Int)), (9, 0)] [(0, y)] N _ _ _
            refine g_bipush lk_70_24 ?_
            refine g_icmp (t := 39) lk_70_26 rfl (by first | (unfold pm_inI; omega) | exact pm_and_in _ _ | exact pm_shr_in _ _ | exact pm_or_in _ _ | exact pm_xor_in _ _ | exact pm_shl_in _ _ | exact pm_cmp_in _ _ | exact pm_b8_in _ | (unfold pm_inI; split <;> omega)) (by first | (unfold pm_inI; omega) | exact pm_and_in _ _ | exact pm_shr_in _ _ | exact pm_or_in _ _ | exact pm_xor_in _ _ | exact pm_shl_in _ _ | exact pm_cmp_in _ _ | exact pm_b8_in _ | (unfold pm_inI; split <;> omega)) (fun h3 => ?_) (fun h3 => ?_)
            · replace h3 : y = 32 := h3
              omega
            · replace h3 : ¬ (y = 32) := h3
              refine g_aload_n lk_70_29 rfl ?_
              refine g_iconst lk_70_30 ?_
              refine g_virtual (p := 2) (Qc := _) lk_70_31 rfl (Nat.le_of_ble_eq_true rfl) rfl rfl (lay.on (by decide) rfl) (Nat.le_of_ble_eq_true rfl) (Nat.le_of_ble_eq_true rfl) (Nat.zero_le _) (Nat.zero_le _) (sa') ?_
              rintro _ N4 ⟨rfl, hN4⟩
              rw [hN4]
              show Wp _ 70 34 [(2, ((2 : Nat) : Int)), (9, 0)] [(0, y)] N _ _ _
              refine g_bipush lk_70_34 ?_
              refine g_icmp (t := 52) lk_70_36 rfl (by first | (unfold pm_inI; omega) | exact pm_and_in _ _ | exact pm_shr_in _ _ | exact pm_or_in _ _ | exact pm_xor_in _ _ | exact pm_shl_in _ _ | exact pm_cmp_in _ _ | exact pm_b8_in _ | (unfold pm_inI; split <;> omega)) (by first | (unfold pm_inI; omega) | exact pm_and_in _ _ | exact pm_shr_in _ _ | exact pm_or_in _ _ | exact pm_xor_in _ _ | exact pm_shl_in _ _ | exact pm_cmp_in _ _ | exact pm_b8_in _ | (unfold pm_inI; split <;> omega)) (fun h5 => ?_) (fun h5 => ?_)
              · replace h5 : ¬ y = 10 := h5
                exact k52 N lay rf f11
              · replace h5 : ¬ (¬ y = 10) := h5
                omega
      · rw [if_neg (fun w => e1 w.1)] at haq
        rw [← haq] at f11 e1
        clear ih
        refine g_aload_n lk_70_8 rfl ?_
        refine m_getfield (u := []) (M := N) lk_70_9 rfl (lay.on (by decide) rfl) (v := (a : Int)) f11 ?_
        refine g_aload_n lk_70_12 rfl ?_
        refine m_getfield (u := []) (M := N) lk_70_13 rfl (lay.on (by decide) rfl) (v := (n : Int)) f4 ?_
        refine g_icmp (t := 52) lk_70_16 rfl (by first | (unfold pm_inI; omega) | exact pm_and_in _ _ | exact pm_shr_in _ _ | exact pm_or_in _ _ | exact pm_xor_in _ _ | exact pm_shl_in _ _ | exact pm_cmp_in _ _ | exact pm_b8_in _ | (unfold pm_inI; split <;> omega)) (by first | (unfold pm_inI; omega) | exact pm_and_in _ _ | exact pm_shr_in _ _ | exact pm_or_in _ _ | exact pm_xor_in _ _ | exact pm_shl_in _ _ | exact pm_cmp_in _ _ | exact pm_b8_in _ | (unfold pm_inI; split <;> omega)) (fun h1 => ?_) (fun h1 => ?_)
        · replace h1 : (n : Int) ≤ (a : Int) := h1
          exact k52 N lay rf f11
        · replace h1 : ¬ ((n : Int) ≤ (a : Int)) := h1
          omega
  show Wp (d + 1) 70 0 [(2, ((2 : Nat) : Int)), (9, 0)] [] M mc ms Q
  refine g_aload_n lk_70_0 rfl ?_
  refine g_aload_n lk_70_1 rfl ?_
  refine m_getfield (u := []) (M := M) lk_70_2 rfl (lay0.on (by decide) rfl) (v := (p : Int)) hp ?_
  have lay1 : Lay (Mu [(2, pm_upd (pm_ct M 2) 11 (p : Int))] M) := lay0.muF (l := []) (a := 2) (k := 11) (z := (p : Int)) rfl rfl
  refine m_putfield (u := []) (u' := [(2, pm_upd (pm_ct M 2) 11 (p : Int))]) (M := M) lk_70_5 rfl (lay0.on (by decide) rfl) (fun h => absurd h (by decide)) rfl ?_
  refine skip 500 p _ pn (by omega) ha lay1 (RdF.mu (fun k hk => ?_)) (by rw [Mu_ct]; rfl)
  simp at hk
  rw [pm_upd_ne (by omega)]
