/-! ===== how a text is read, as mathematics ===== -/
theorem nr27_inj : ∀ l m : List Nat, (∀ x, x ∈ l → 1 ≤ x ∧ x ≤ 26) → (∀ x, x ∈ m → 1 ≤ x ∧ x ≤ 26) → nr 27 l = nr 27 m → l = m
  | [], [], _, _, _ => rfl
  | [], y :: m, _, h2, e => by
    have e' : 0 = y + 27 * nr 27 m := e
    have := h2 y List.mem_cons_self
    omega
  | x :: l, [], h1, _, e => by
    have e' : x + 27 * nr 27 l = 0 := e
    have := h1 x List.mem_cons_self
    omega
  | x :: l, y :: m, h1, h2, e => by
    have e' : x + 27 * nr 27 l = y + 27 * nr 27 m := e
    have a := h1 x List.mem_cons_self
    have b := h2 y List.mem_cons_self
    have e1 : x = y := by omega
    have e2 : nr 27 l = nr 27 m := by omega
    rw [e1, nr27_inj l m (fun z hz => h1 z (List.mem_cons_of_mem _ hz)) (fun z hz => h2 z (List.mem_cons_of_mem _ hz)) e2]
theorem nr32_inj : ∀ l m : List Nat, (∀ x, x ∈ l → 1 ≤ x ∧ x ≤ 26) → (∀ x, x ∈ m → 1 ≤ x ∧ x ≤ 26) → nr 32 l = nr 32 m → l = m
  | [], [], _, _, _ => rfl
  | [], y :: m, _, h2, e => by
    have e' : 0 = y + 32 * nr 32 m := e
    have := h2 y List.mem_cons_self
    omega
  | x :: l, [], h1, _, e => by
    have e' : x + 32 * nr 32 l = 0 := e
    have := h1 x List.mem_cons_self
    omega
  | x :: l, y :: m, h1, h2, e => by
    have e' : x + 32 * nr 32 l = y + 32 * nr 32 m := e
    have a := h1 x List.mem_cons_self
    have b := h2 y List.mem_cons_self
    have e1 : x = y := by omega
    have e2 : nr 32 l = nr 32 m := by omega
    rw [e1, nr32_inj l m (fun z hz => h1 z (List.mem_cons_of_mem _ hz)) (fun z hz => h2 z (List.mem_cons_of_mem _ hz)) e2]
/-- the letters of a token -/
def twd (ch : Nat → Nat) (t : Tok) : List Nat := lw' ch t.2.1 (t.2.2 - t.2.1)
theorem lw_26 {ch : Nat → Nat} {a : Nat} : ∀ {k : Nat}, (∀ i, a ≤ i → i < a + k → kdc (ch i) = 1) → ∀ x, x ∈ lw' ch a k → 1 ≤ x ∧ x ≤ 26
  | 0, _, x, hx => by cases hx
  | k + 1, h, x, hx => by
    rcases List.mem_cons.mp hx with e | e
    · have := kdc_1 (h (a + k) (by omega) (by omega))
      omega
    · exact lw_26 (fun i h1 h2 => h i h1 (by omega)) x e
theorem lw_len (ch : Nat → Nat) (a : Nat) : ∀ k, (lw' ch a k).length = k
  | 0 => rfl
  | k + 1 => by show (lw' ch a k).length + 1 = k + 1; rw [lw_len ch a k]
def LtOK (l : List Nat) : Prop := l.length ≤ 6 ∧ ∀ x, x ∈ l → 1 ≤ x ∧ x ≤ 26
theorem nr_bd {b : Nat} (hb : 26 < b) : ∀ l : List Nat, (∀ x, x ∈ l → 1 ≤ x ∧ x ≤ 26) → nr b l < b ^ l.length
  | [], _ => by show 0 < b ^ 0; rw [Nat.pow_zero]; omega
  | x :: l, h => by
    show x + b * nr b l < b ^ (l.length + 1)
    have ih := nr_bd hb l (fun z hz => h z (List.mem_cons_of_mem _ hz))
    have hx := h x List.mem_cons_self
    rw [Nat.pow_succ, Nat.mul_comm]
    have : (nr b l + 1) * b ≤ b ^ l.length * b := Nat.mul_le_mul_right b ih
    rw [Nat.add_mul, Nat.one_mul] at this
    omega
theorem nr_small {b : Nat} (hb : 26 < b) (hb2 : b ≤ 32) {l : List Nat} (h : LtOK l) : nr b l < 1073741824 := by
  have h1 := nr_bd hb l h.2
  have h2 : b ^ l.length ≤ 32 ^ 6 := Nat.le_trans (Nat.pow_le_pow_left hb2 _) (Nat.pow_le_pow_right (by omega) h.1)
  omega
abbrev wdA : List Nat := [1]
abbrev wdB : List Nat := [2]
abbrev wCost : List Nat := [20, 19, 15, 3]
abbrev wTree : List Nat := [5, 5, 18, 20]
abbrev wLeaf : List Nat := [6, 1, 5, 12]
theorem lt_con {l : List Nat} (h : (l.length ≤ 6 && l.all (fun x => decide (1 ≤ x) && decide (x ≤ 26))) = true) : LtOK l := by
  rw [Bool.and_eq_true, List.all_eq_true] at h
  refine ⟨by simpa using h.1, fun x hx => ?_⟩
  have := h.2 x hx
  rw [Bool.and_eq_true, decide_eq_true_eq, decide_eq_true_eq] at this
  exact this
theorem w27 {l m : List Nat} (hl : LtOK l) (hm : LtOK m) : (nr 27 l : Int) = (nr 27 m : Int) ↔ l = m := ⟨fun e => nr27_inj l m hl.2 hm.2 (by omega), fun e => by rw [e]⟩
theorem w32 {l m : List Nat} (hl : LtOK l) (hm : LtOK m) : (nr 32 l : Int) = (nr 32 m : Int) ↔ l = m := ⟨fun e => nr32_inj l m hl.2 hm.2 (by omega), fun e => by rw [e]⟩
theorem w27_con {l : List Nat} (h : LtOK l) : ((nr 27 l : Int) = 1 ↔ l = wdA) ∧ ((nr 27 l : Int) = 2 ↔ l = wdB) ∧ ((nr 27 l : Int) = 70517 ↔ l = wCost) ∧ ((nr 27 l : Int) = 406922 ↔ l = wTree) ∧ ((nr 27 l : Int) = 239874 ↔ l = wLeaf) :=
  ⟨w27 (m := wdA) h (lt_con (by decide)), w27 (m := wdB) h (lt_con (by decide)), w27 (m := wCost) h (lt_con (by decide)), w27 (m := wTree) h (lt_con (by decide)), w27 (m := wLeaf) h (lt_con (by decide))⟩
theorem w32_con {l : List Nat} (h : LtOK l) : ((nr 32 l : Int) = 1 ↔ l = wdA) ∧ ((nr 32 l : Int) = 2 ↔ l = wdB) ∧ ((nr 32 l : Int) = 114292 ↔ l = wCost) ∧ ((nr 32 l : Int) = 673957 ↔ l = wTree) ∧ ((nr 32 l : Int) = 398374 ↔ l = wLeaf) :=
  ⟨w32 (m := wdA) h (lt_con (by decide)), w32 (m := wdB) h (lt_con (by decide)), w32 (m := wCost) h (lt_con (by decide)), w32 (m := wTree) h (lt_con (by decide)), w32 (m := wLeaf) h (lt_con (by decide))⟩
/-- a token of this tape -/
def TkOK (ch : Nat → Nat) (n : Nat) (t : Tok) : Prop := t.1 ≤ 4 ∧ t.2.1 ≤ t.2.2 ∧ t.2.2 ≤ n ∧ (t.1 = 0 → t.2.1 = n ∧ t.2.2 = n) ∧ (t.1 ≠ 0 → t.2.1 < t.2.2) ∧ (t.1 = 1 ∨ t.1 = 2 → t.2.2 ≤ t.2.1 + 6 ∧ ∀ i, t.2.1 ≤ i → i < t.2.2 → kdc (ch i) = t.1)
theorem lxt_ok {ch : Nat → Nat} {n p : Nat} (hp : p ≤ n) (hn : n ≤ 500) : TkOK ch n (lxt ch n p) ∧ p ≤ (lxt ch n p).2.1 := by
  obtain ⟨a, b, c, e, f, g, h⟩ := lx_ok (ch := ch) hp hn rfl
  exact ⟨⟨a, c, e, f, g, h⟩, b⟩
theorem TkOK.lt {ch : Nat → Nat} {n : Nat} {t : Tok} (h : TkOK ch n t) (h1 : t.1 = 1) : LtOK (twd ch t) := by
  obtain ⟨_, a2, _, _, _, a6⟩ := h
  obtain ⟨b1, b2⟩ := a6 (Or.inl h1)
  refine ⟨by unfold twd; rw [lw_len]; omega, lw_26 (fun i q1 q2 => ?_)⟩
  rw [b2 i q1 (by omega), h1]
/-- a fault at a token -/
def flt (why : Nat) (t : Tok) : Nat × Nat := (if t.1 = 4 then 1 else why, t.2.1)
def pNum (ch : Nat → Nat) (least : Nat) (t : Tok) : Sum (Nat × Nat) Nat := if t.1 = 2 then (if t.2.2 = t.2.1 + 1 ∧ 48 + least ≤ ch t.2.1 then .inr (ch t.2.1 - 48) else .inl (flt 4 t)) else .inl (flt 2 t)
def sc (ch : Nat → Nat) (many : Nat) : Nat → Nat → Nat → Option Nat
  | 0, _, s => some s
  | k + 1, i, s => if 48 ≤ ch i ∧ ch i - 48 < many ∧ s < 2 ^ (ch i - 48) then sc ch many k (i + 1) (s + 2 ^ (ch i - 48)) else none
def pSet (ch : Nat → Nat) (many : Nat) (t : Tok) : Sum (Nat × Nat) Nat := if t.1 = 2 then (match sc ch many (t.2.2 - t.2.1) t.2.1 0 with
    | some s => .inr s
    | none => .inl (flt 4 t)) else .inl (flt 2 t)
theorem sc_bd {ch : Nat → Nat} {many : Nat} (hm : many ≤ 6) : ∀ {k i s v : Nat}, s < 64 → sc ch many k i s = some v → v < 64 ∧ s ≤ v
  | 0, _, s, v, hs, e => by
    have e' : some s = some v := e
    cases e'
    exact ⟨hs, Nat.le_refl _⟩
  | k + 1, i, s, v, hs, e => by
    replace e : (if 48 ≤ ch i ∧ ch i - 48 < many ∧ s < 2 ^ (ch i - 48) then sc ch many k (i + 1) (s + 2 ^ (ch i - 48)) else none) = some v := e
    by_cases q : 48 ≤ ch i ∧ ch i - 48 < many ∧ s < 2 ^ (ch i - 48)
    · rw [if_pos q] at e
      have p2 : 2 ^ (ch i - 48) ≤ 2 ^ 5 := Nat.pow_le_pow_right (by omega) (by omega)
      have := sc_bd hm (by omega) e
      omega
    · rw [if_neg q] at e; cases e
/-- what both objects say of a fault -/
def FtX (M : pm_M) (e : Nat × Nat) : Prop := pm_ct M 2 6 = (e.1 : Int) ∧ pm_ct M 2 7 = (e.2 : Int)
def FtM (M : pm_M) (e : Nat × Nat) : Prop := pm_ct M 116 31 = (e.1 : Int) ∧ pm_ct M 116 32 = (e.2 : Int)
/-- the reader's fault and token alone have changed -/
def ReF (M N : pm_M) : Prop := Fr [2] M N ∧ ∀ k, k ∉ [6, 7, 9, 10, 11, 12, 13] → pm_ct N 2 k = pm_ct M 2 k
theorem RdF.re {M N : pm_M} (h : RdF M N) : ReF M N := ⟨h.1, fun k hk => h.2 k (fun q => hk (by simp at q ⊢; omega))⟩
theorem ReF.refl (M : pm_M) : ReF M M := ⟨Fr.refl _ _, fun _ _ => rfl⟩
theorem ReF.trans {M N K : pm_M} (h : ReF M N) (k : ReF N K) : ReF M K := ⟨h.1.trans k.1, fun j hj => (k.2 j hj).trans (h.2 j hj)⟩
theorem c_Reader_refuse {d mc ms : Nat} {M : pm_M} (lay : Lay M) {ch : Nat → Nat} {t : Tok} (hT : TkX M ch t) (t4 : t.1 ≤ 4) {w : Nat} :
    pm_E d 58 [(2, ((2 : Nat) : Int)), (0, (w : Int))] M mc ms (fun ρ M' => ρ = some (0, 0) ∧ Lay M' ∧ ReF M M' ∧ FtX M' (flt w t)) := by
  obtain ⟨f10, f11, _⟩ := hT
  have e1 : (flt w t).1 = if t.1 = 4 then 1 else w := rfl
  have e2 : (flt w t).2 = t.2.1 := rfl
  have re : ∀ z1 z2 : Int, ReF M (Mu [(2, pm_upd (pm_upd (pm_ct M 2) 6 z1) 7 z2)] M) := fun z1 z2 => ⟨Fr.mu _ _ rfl, fun k hk => by
    rw [Mu_ct]
    show pm_upd (pm_upd (pm_ct M 2) 6 z1) 7 z2 k = _
    simp at hk
    rw [pm_upd_ne (by omega), pm_upd_ne (by omega)]⟩
  obtain ⟨K, hK⟩ : ∃ K, K = t.1 := ⟨_, rfl⟩
  obtain ⟨a, ha⟩ : ∃ a, a = t.2.1 := ⟨_, rfl⟩
  rw [← hK] at f10 t4 e1
  rw [← ha] at f11 e2
  unfold FtX
  rw [e1, e2]
  show Wp d 58 0 [(2, ((2 : Nat) : Int)), (0, (w : Int))] [] M mc ms _
  refine g_aload_n lk_58_0 rfl ?_
  refine g_aload_n lk_58_1 rfl ?_
  refine m_getfield (u := []) (M := M) lk_58_2 rfl (lay.on (by decide) rfl) (v := (K : Int)) f10 ?_
  refine g_iconst lk_58_5 ?_
  refine g_icmp (t := 13) lk_58_6 rfl (by first | (unfold pm_inI; omega) | exact pm_and_in _ _ | exact pm_shr_in _ _ | exact pm_or_in _ _ | exact pm_xor_in _ _ | exact pm_shl_in _ _ | exact pm_cmp_in _ _ | exact pm_b8_in _ | (unfold pm_inI; split <;> omega)) (by first | (unfold pm_inI; omega) | exact pm_and_in _ _ | exact pm_shr_in _ _ | exact pm_or_in _ _ | exact pm_xor_in _ _ | exact pm_shl_in _ _ | exact pm_cmp_in _ _ | exact pm_b8_in _ | (unfold pm_inI; split <;> omega)) (fun h1 => ?_) (fun h1 => ?_)
  · replace h1 : ¬ (K : Int) = 4 := h1
    refine g_iload_n lk_58_13 rfl ?_
    have lay2 : Lay (Mu [(2, pm_upd (pm_ct M 2) 6 (w : Int))] M) := lay.muF (l := []) (a := 2) (k := 6) (z := (w : Int)) rfl rfl
    refine m_putfield (u := []) (u' := [(2, pm_upd (pm_ct M 2) 6 (w : Int))]) (M := M) lk_58_14 rfl (lay.on (by decide) rfl) (fun h => absurd h (by decide)) rfl ?_
    refine g_aload_n lk_58_17 rfl ?_
    refine g_aload_n lk_58_18 rfl ?_
    refine m_getfield (u := [(2, pm_upd (pm_ct M 2) 6 (w : Int))]) (M := M) lk_58_19 rfl (lay2.on (by decide) rfl) (v := (a : Int)) f11 ?_
    have lay3 : Lay (Mu [(2, pm_upd (pm_upd (pm_ct M 2) 6 (w : Int)) 7 (a : Int))] M) := lay2.muF (l := [(2, pm_upd (pm_ct M 2) 6 (w : Int))]) (a := 2) (k := 7) (z := (a : Int)) rfl rfl
    refine m_putfield (u := [(2, pm_upd (pm_ct M 2) 6 (w : Int))]) (u' := [(2, pm_upd (pm_upd (pm_ct M 2) 6 (w : Int)) 7 (a : Int))]) (M := M) lk_58_22 rfl (lay2.on (by decide) rfl) (fun h => absurd h (by decide)) rfl ?_
    refine g_iconst lk_58_25 ?_
    refine g_ireturn lk_58_26 (fun _ => by omega) ?_
    exact ⟨rfl, lay3, re _ _, by rw [Mu_ct, if_neg (by omega)]; rfl, by rw [Mu_ct]; rfl⟩
  · replace h1 : ¬ (¬ (K : Int) = 4) := h1
    refine g_iconst lk_58_9 ?_
    refine g_goto (t := 14) lk_58_10 rfl ?_
    have lay4 : Lay (Mu [(2, pm_upd (pm_ct M 2) 6 1)] M) := lay.muF (l := []) (a := 2) (k := 6) (z := 1) rfl rfl
    refine m_putfield (u := []) (u' := [(2, pm_upd (pm_ct M 2) 6 1)]) (M := M) lk_58_14 rfl (lay.on (by decide) rfl) (fun h => absurd h (by decide)) rfl ?_
    refine g_aload_n lk_58_17 rfl ?_
    refine g_aload_n lk_58_18 rfl ?_
    refine m_getfield (u := [(2, pm_upd (pm_ct M 2) 6 1)]) (M := M) lk_58_19 rfl (lay4.on (by decide) rfl) (v := (a : Int)) f11 ?_
    have lay5 : Lay (Mu [(2, pm_upd (pm_upd (pm_ct M 2) 6 1) 7 (a : Int))] M) := lay4.muF (l := [(2, pm_upd (pm_ct M 2) 6 1)]) (a := 2) (k := 7) (z := (a : Int)) rfl rfl
    refine m_putfield (u := [(2, pm_upd (pm_ct M 2) 6 1)]) (u' := [(2, pm_upd (pm_upd (pm_ct M 2) 6 1) 7 (a : Int))]) (M := M) lk_58_22 rfl (lay4.on (by decide) rfl) (fun h => absurd h (by decide)) rfl ?_
    refine g_iconst lk_58_25 ?_
    refine g_ireturn lk_58_26 (fun _ => by omega) ?_
    exact ⟨rfl, lay5, re _ _, by rw [Mu_ct, if_pos (by omega)]; rfl, by rw [Mu_ct]; rfl⟩
theorem c_Mo_fails {d mc ms : Nat} {M : pm_M} (lay : Lay M) {ch : Nat → Nat} {t : Tok} (hT : TkM M ch t) (t4 : t.1 ≤ 4) (h31 : pm_ct M 116 31 = 0) {w : Nat} :
    pm_E d 184 [(2, ((116 : Nat) : Int)), (0, (w : Int))] M mc ms (fun ρ M' => ρ = none ∧ Lay M' ∧ MF [] [31, 32] M M' ∧ FtM M' (flt w t)) := by
  obtain ⟨f27, f25, _⟩ := hT
  have e1 : (flt w t).1 = if t.1 = 4 then 1 else w := rfl
  have e2 : (flt w t).2 = t.2.1 := rfl
  have re : ∀ z1 z2 : Int, MF [] [31, 32] M (Mu [(116, pm_upd (pm_upd (pm_ct M 116) 31 z1) 32 z2)] M) := fun z1 z2 => MF.mu _ _ rfl (fun k hk => by
    show pm_upd (pm_upd (pm_ct M 116) 31 z1) 32 z2 k = _
    simp at hk
    rw [pm_upd_ne (by omega), pm_upd_ne (by omega)])
  obtain ⟨K, hK⟩ : ∃ K, K = t.1 := ⟨_, rfl⟩
  obtain ⟨a, ha⟩ : ∃ a, a = t.2.1 := ⟨_, rfl⟩
  rw [← hK] at f27 t4 e1
  rw [← ha] at f25 e2
  unfold FtM
  rw [e1, e2]
  show Wp d 184 0 [(2, ((116 : Nat) : Int)), (0, (w : Int))] [] M mc ms _
  refine g_aload_n lk_184_0 rfl ?_
  refine m_getfield (u := []) (M := M) lk_184_1 rfl (lay.on (by decide) rfl) (v := 0) h31 ?_
  refine g_if (t := 32) lk_184_4 rfl (by first | (unfold pm_inI; omega) | exact pm_and_in _ _ | exact pm_shr_in _ _ | exact pm_or_in _ _ | exact pm_xor_in _ _ | exact pm_shl_in _ _ | exact pm_cmp_in _ _ | exact pm_b8_in _ | (unfold pm_inI; split <;> omega)) (fun h => absurd h (show ¬ (¬ (0 : Int) = (0 : Int)) by omega)) (fun _ => ?_)
  refine g_aload_n lk_184_7 rfl ?_
  refine g_aload_n lk_184_8 rfl ?_
  refine m_getfield (u := []) (M := M) lk_184_9 rfl (lay.on (by decide) rfl) (v := (K : Int)) f27 ?_
  refine g_iconst lk_184_12 ?_
  refine g_icmp (t := 20) lk_184_13 rfl (by first | (unfold pm_inI; omega) | exact pm_and_in _ _ | exact pm_shr_in _ _ | exact pm_or_in _ _ | exact pm_xor_in _ _ | exact pm_shl_in _ _ | exact pm_cmp_in _ _ | exact pm_b8_in _ | (unfold pm_inI; split <;> omega)) (by first | (unfold pm_inI; omega) | exact pm_and_in _ _ | exact pm_shr_in _ _ | exact pm_or_in _ _ | exact pm_xor_in _ _ | exact pm_shl_in _ _ | exact pm_cmp_in _ _ | exact pm_b8_in _ | (unfold pm_inI; split <;> omega)) (fun h1 => ?_) (fun h1 => ?_)
  · replace h1 : ¬ (K : Int) = 4 := h1
    refine g_iload_n lk_184_20 rfl ?_
    have lay2 : Lay (Mu [(116, pm_upd (pm_ct M 116) 31 (w : Int))] M) := lay.muF (l := []) (a := 116) (k := 31) (z := (w : Int)) rfl rfl
    refine m_putfield (u := []) (u' := [(116, pm_upd (pm_ct M 116) 31 (w : Int))]) (M := M) lk_184_21 rfl (lay.on (by decide) rfl) (fun h => absurd h (by decide)) rfl ?_
    refine g_aload_n lk_184_24 rfl ?_
    refine g_aload_n lk_184_25 rfl ?_
    refine m_getfield (u := [(116, pm_upd (pm_ct M 116) 31 (w : Int))]) (M := M) lk_184_26 rfl (lay2.on (by decide) rfl) (v := (a : Int)) f25 ?_
    have lay3 : Lay (Mu [(116, pm_upd (pm_upd (pm_ct M 116) 31 (w : Int)) 32 (a : Int))] M) := lay2.muF (l := [(116, pm_upd (pm_ct M 116) 31 (w : Int))]) (a := 116) (k := 32) (z := (a : Int)) rfl rfl
    refine m_putfield (u := [(116, pm_upd (pm_ct M 116) 31 (w : Int))]) (u' := [(116, pm_upd (pm_upd (pm_ct M 116) 31 (w : Int)) 32 (a : Int))]) (M := M) lk_184_29 rfl (lay2.on (by decide) rfl) (fun h => absurd h (by decide)) rfl ?_
    refine g_return lk_184_32 ?_
    exact ⟨rfl, lay3, re _ _, by rw [Mu_ct, if_neg (by omega)]; rfl, by rw [Mu_ct]; rfl⟩
  · replace h1 : ¬ (¬ (K : Int) = 4) := h1
    refine g_iconst lk_184_16 ?_
    refine g_goto (t := 21) lk_184_17 rfl ?_
    have lay4 : Lay (Mu [(116, pm_upd (pm_ct M 116) 31 1)] M) := lay.muF (l := []) (a := 116) (k := 31) (z := 1) rfl rfl
    refine m_putfield (u := []) (u' := [(116, pm_upd (pm_ct M 116) 31 1)]) (M := M) lk_184_21 rfl (lay.on (by decide) rfl) (fun h => absurd h (by decide)) rfl ?_
    refine g_aload_n lk_184_24 rfl ?_
    refine g_aload_n lk_184_25 rfl ?_
    refine m_getfield (u := [(116, pm_upd (pm_ct M 116) 31 1)]) (M := M) lk_184_26 rfl (lay4.on (by decide) rfl) (v := (a : Int)) f25 ?_
    have lay5 : Lay (Mu [(116, pm_upd (pm_upd (pm_ct M 116) 31 1) 32 (a : Int))] M) := lay4.muF (l := [(116, pm_upd (pm_ct M 116) 31 1)]) (a := 116) (k := 32) (z := (a : Int)) rfl rfl
    refine m_putfield (u := [(116, pm_upd (pm_ct M 116) 31 1)]) (u' := [(116, pm_upd (pm_upd (pm_ct M 116) 31 1) 32 (a : Int))]) (M := M) lk_184_29 rfl (lay4.on (by decide) rfl) (fun h => absurd h (by decide)) rfl ?_
    refine g_return lk_184_32 ?_
    exact ⟨rfl, lay5, re _ _, by rw [Mu_ct, if_pos (by omega)]; rfl, by rw [Mu_ct]; rfl⟩
