/-! ===== the makers: a run on cells that are known ===== -/
abbrev ce_C : Type := Nat × Nat × Nat × List (Nat × Int)
abbrev ce_R : Type := Option (Option pm_V × List ce_C × Nat × Nat)
abbrev ce_K : Type := Nat → Nat → Nat → List pm_V → List pm_V → List ce_C → ce_R
def ce_b (d : Nat) : Nat → Int := if d = 0 then (fun _ => 0) else if d = 1 then (fun _ => -1) else (fun k => pm_df (pm_ft (d - 2) k))
def ce_f (d : Nat) : List (Nat × Int) → Nat → Int
  | [] => ce_b d
  | q :: r => pm_upd (ce_f d r) q.1 q.2
def ce_s (c : ce_C) : pm_C := (c.1, c.2.1, ce_f c.2.2.1 c.2.2.2)
def ce_o (x : Option ce_C) : pm_C := match x with
  | some c => ce_s c
  | none => (0, 0, fun _ => 0)
def ce_g (S : pm_C) (h : List ce_C) (a : Nat) : pm_C := if a = 0 then S else ce_o h[a - 1]?
def ce_M (S : pm_C) (h : List ce_C) : pm_M := (h.length + 1, ce_g S h)
theorem ce_at {S : pm_C} {h : List ce_C} {j : Nat} {c : ce_C} (e : h[j]? = some c) : (ce_M S h).2 (j + 1) = ce_s c := by
  show ce_g S h (j + 1) = _
  unfold ce_g
  rw [if_neg (by omega), Nat.add_sub_cancel, e]
  rfl
theorem ce_lt {S : pm_C} {h : List ce_C} {j : Nat} {c : ce_C} (e : h[j]? = some c) : j + 1 < (ce_M S h).1 := by
  have := (List.getElem?_eq_some_iff.mp e).1
  show j + 1 < h.length + 1
  omega
theorem ce_kd {S : pm_C} {h : List ce_C} {j : Nat} {c : ce_C} (e : h[j]? = some c) : pm_kd (ce_M S h) (j + 1) = c.1 := by
  unfold pm_kd
  rw [ce_at e]; rfl
theorem ce_ln {S : pm_C} {h : List ce_C} {j : Nat} {c : ce_C} (e : h[j]? = some c) : pm_ln (ce_M S h) (j + 1) = c.2.1 := by
  unfold pm_ln
  rw [ce_at e]; rfl
theorem ce_ct {S : pm_C} {h : List ce_C} {j : Nat} {c : ce_C} (e : h[j]? = some c) : pm_ct (ce_M S h) (j + 1) = ce_f c.2.2.1 c.2.2.2 := by
  unfold pm_ct
  rw [ce_at e]; rfl
theorem ce_new (S : pm_C) (h : List ce_C) (c : ce_C) : pm_new (ce_M S h) (ce_s c) = ce_M S (h ++ [c]) := by
  unfold pm_new ce_M
  refine Prod.ext ?_ (funext (fun b => ?_))
  · show h.length + 1 + 1 = (h ++ [c]).length + 1
    rw [List.length_append]; rfl
  · show (if b = h.length + 1 then ce_s c else ce_g S h b) = ce_g S (h ++ [c]) b
    unfold ce_g
    by_cases b0 : b = 0
    · rw [if_neg (by omega), if_pos b0, if_pos b0]
    · rw [if_neg b0, if_neg b0]
      by_cases e : b = h.length + 1
      · rw [if_pos e, e, Nat.add_sub_cancel, List.getElem?_append_right (Nat.le_refl _), Nat.sub_self]; rfl
      · rw [if_neg e]
        by_cases l : b - 1 < h.length
        · rw [List.getElem?_append_left l]
        · rw [List.getElem?_append_right (by omega), List.getElem?_eq_none (by omega), List.getElem?_eq_none (by show 1 ≤ b - 1 - h.length; omega)]
theorem ce_up {S : pm_C} {h : List ce_C} {j : Nat} {c : ce_C} (e : h[j]? = some c) (k : Nat) (z : Int) : pm_up (ce_M S h) (j + 1) (pm_upd (pm_ct (ce_M S h) (j + 1)) k z) = ce_M S (h.set j (c.1, c.2.1, c.2.2.1, (k, z) :: c.2.2.2)) := by
  have jl := (List.getElem?_eq_some_iff.mp e).1
  unfold pm_up
  rw [ce_kd e, ce_ln e, ce_ct e]
  refine Prod.ext ?_ (funext (fun b => ?_))
  · show h.length + 1 = (h.set j (c.1, c.2.1, c.2.2.1, (k, z) :: c.2.2.2)).length + 1
    rw [List.length_set]
  · show (if b = j + 1 then _ else ce_g S h b) = ce_g S (h.set j (c.1, c.2.1, c.2.2.1, (k, z) :: c.2.2.2)) b
    unfold ce_g
    by_cases b0 : b = 0
    · rw [if_neg (by omega), if_pos b0, if_pos b0]
    · rw [if_neg b0, if_neg b0]
      by_cases q : b = j + 1
      · rw [if_pos q, q, Nat.add_sub_cancel, List.getElem?_set_self jl]; rfl
      · rw [if_neg q, List.getElem?_set_ne (by omega)]
def ce_if (b : Bool) (x : ce_R) : ce_R := match b with
  | true => x
  | false => none
theorem ce_if_ok {b : Bool} {x : ce_R} {r : Option pm_V × List ce_C × Nat × Nat} (h : ce_if b x = some r) : b = true ∧ x = some r := by
  cases b with
  | true => exact ⟨rfl, h⟩
  | false => cases h
def ce_1 (t : Nat) (st : List pm_V) (k : Int → List pm_V → ce_R) : ce_R := match st with
  | v :: r => ce_if (decide (v.1 = t)) (k v.2 r)
  | [] => none
theorem ce_1_ok {t : Nat} {st : List pm_V} {k : Int → List pm_V → ce_R} {r : Option pm_V × List ce_C × Nat × Nat} (h : ce_1 t st k = some r) : ∃ z s, st = (t, z) :: s ∧ k z s = some r := by
  cases st with
  | nil => cases h
  | cons v s =>
    obtain ⟨h1, h2⟩ := ce_if_ok h
    obtain ⟨v1, v2⟩ := v
    have e : v1 = t := of_decide_eq_true h1
    rw [e]
    exact ⟨v2, s, rfl, h2⟩
def ce_l (t : Nat) (ls : List pm_V) (i : Nat) (k : Int → ce_R) : ce_R := match ls[i]? with
  | some v => ce_if (decide (v.1 = t)) (k v.2)
  | none => none
theorem ce_l_ok {t i : Nat} {ls : List pm_V} {k : Int → ce_R} {r : Option pm_V × List ce_C × Nat × Nat} (h : ce_l t ls i k = some r) : ∃ z, ls[i]? = some (t, z) ∧ k z = some r := by
  unfold ce_l at h
  cases e : ls[i]? with
  | none => rw [e] at h; cases h
  | some v =>
    rw [e] at h
    obtain ⟨h1, h2⟩ := ce_if_ok h
    obtain ⟨v1, v2⟩ := v
    have e : v1 = t := of_decide_eq_true h1
    rw [e]
    exact ⟨v2, rfl, h2⟩
def ce_c (h : List ce_C) (a : Int) (k : Nat → ce_C → ce_R) : ce_R := ce_if (decide (0 < a)) (match h[a.toNat - 1]? with
  | some c => k (a.toNat - 1) c
  | none => none)
theorem ce_c_ok {h : List ce_C} {a : Int} {k : Nat → ce_C → ce_R} {r : Option pm_V × List ce_C × Nat × Nat} (e : ce_c h a k = some r) : ∃ j c, a = ((j + 1 : Nat) : Int) ∧ h[j]? = some c ∧ k j c = some r := by
  obtain ⟨h1, h2⟩ := ce_if_ok e
  have a0 : 0 < a := of_decide_eq_true h1
  cases q : h[a.toNat - 1]? with
  | none => rw [q] at h2; cases h2
  | some c =>
    rw [q] at h2
    exact ⟨a.toNat - 1, c, by omega, q, h2⟩
def ce_add (c s : Nat) (x : ce_R) : ce_R := match x with
  | some (ρ, h, uc, us) => some (ρ, h, uc + c, us + s)
  | none => none
theorem ce_add_ok {c s : Nat} {x : ce_R} {ρ : Option pm_V} {h : List ce_C} {uc us : Nat} (e : ce_add c s x = some (ρ, h, uc, us)) : ∃ uc1 us1, x = some (ρ, h, uc1, us1) ∧ uc = uc1 + c ∧ us = us1 + s := by
  cases x with
  | none => cases e
  | some y =>
    obtain ⟨a, b, d, f⟩ := y
    cases e
    exact ⟨d, f, rfl, rfl, rfl⟩
def ce_inI (a : Int) : Bool := decide (-2147483648 ≤ a) && decide (a ≤ 2147483647)
theorem ce_inI_ok {a : Int} (h : ce_inI a = true) : pm_wI a = a := by
  unfold ce_inI at h
  rw [Bool.and_eq_true] at h
  exact pm_wI_of ⟨of_decide_eq_true h.1, of_decide_eq_true h.2⟩
def ce_cn (c : ClassFile.Cond) (a b : Int) : Bool := match c with
  | .eq => decide (a = b)
  | .ne => decide (¬ a = b)
  | .lt => decide (a < b)
  | .ge => decide (b ≤ a)
  | .gt => decide (b < a)
  | .le => decide (a ≤ b)
theorem ce_cn_t {c : ClassFile.Cond} {a b : Int} (h : ce_cn c a b = true) : pm_cnd c a b := by
  cases c
  case eq => exact of_decide_eq_true (p := a = b) h
  case ne => exact of_decide_eq_true (p := ¬ a = b) h
  case lt => exact of_decide_eq_true (p := a < b) h
  case ge => exact of_decide_eq_true (p := b ≤ a) h
  case gt => exact of_decide_eq_true (p := b < a) h
  case le => exact of_decide_eq_true (p := a ≤ b) h
theorem ce_cn_f {c : ClassFile.Cond} {a b : Int} (h : ce_cn c a b = false) : ¬ pm_cnd c a b := by
  cases c
  case eq => exact of_decide_eq_false (p := a = b) h
  case ne => exact of_decide_eq_false (p := ¬ a = b) h
  case lt => exact of_decide_eq_false (p := a < b) h
  case ge => exact of_decide_eq_false (p := b ≤ a) h
  case gt => exact of_decide_eq_false (p := b < a) h
  case le => exact of_decide_eq_false (p := a ≤ b) h
def ce_bo (ty : FieldType) : Bool := match ty with
  | .boolean => true
  | _ => false
def ce_call (g : ce_K) (d y pc : Nat) (ls : List pm_V) (h : List ce_C) (y' : Nat) (as r : List pm_V) : ce_R := ce_if (decide ((pm_fl as).length ≤ (pm_md y').2.2.1) && decide ((r.map pm_cat).sum ≤ 8)) (match d with
  | 0 => none
  | d' + 1 => (match g d' y' 0 (pm_en as (pm_md y').2.2.1) [] h with
    | some (ρ, h1, c1, s1) => ce_add c1 s1 (g (d' + 1) y (pc + 3) ls (ρ.toList ++ r) h1)
    | none => none))
def ce_x (g : ce_K) (d y pc : Nat) (ls st : List pm_V) (h : List ce_C) (e1 e2 : Nat) (e3 : Int) (i : Instr) : ce_R := match i with
  | .iconst n => g d y (pc + 1) ls ((0, n) :: st) h
  | .bipush n => g d y (pc + 2) ls ((0, n) :: st) h
  | .sipush n => g d y (pc + 3) ls ((0, n) :: st) h
  | .ldc _ => g d y (pc + 2) ls ((0, e3) :: st) h
  | .iload_n k => ce_l 0 ls k (fun z => g d y (pc + 1) ls ((0, z) :: st) h)
  | .aload_n k => ce_l 2 ls k (fun z => ce_if (decide (0 ≤ z)) (g d y (pc + 1) ls ((2, z) :: st) h))
  | .istore_n k => ce_1 0 st (fun z r => ce_if (pm_s1 ls k) (g d y (pc + 1) (ls.set k (0, z)) r h))
  | .iinc k n => ce_l 0 ls k (fun z => ce_if (pm_s1 ls k) (g d y (pc + 3) (ls.set k (0, z + n)) st h))
  | .if_icmp c off => ce_1 0 st (fun b r1 => ce_1 0 r1 (fun a r => ce_if (ce_inI a && ce_inI b) (match ce_cn c a b with
    | true => g d y ((pc : Int) + off).toNat ls r h
    | false => g d y (pc + 3) ls r h)))
  | .goto off => g d y ((pc : Int) + off).toNat ls st h
  | .dup => (match st with
    | v :: r => ce_if (decide (pm_cat v = 1)) (g d y (pc + 1) ls (v :: v :: r) h)
    | [] => none)
  | .getfield _ => ce_1 2 st (fun a r => ce_c h a (fun _ c => ce_if (decide (c.1 = e1)) (g d y (pc + 3) ls ((e3.toNat, ce_f c.2.2.1 c.2.2.2 e2) :: r) h)))
  | .putfield _ => ce_1 e3.toNat st (fun z r1 => ce_1 2 r1 (fun a r => ce_c h a (fun j c => ce_if (decide (c.1 = e1) && (!ce_bo (pm_ft e1 e2) || decide (z = 0 ∨ z = 1))) (g d y (pc + 3) ls r (h.set j (c.1, c.2.1, c.2.2.1, (e2, z) :: c.2.2.2))))))
  | .iastore => ce_1 0 st (fun z r1 => ce_1 0 r1 (fun i r2 => ce_1 2 r2 (fun a r => ce_c h a (fun j c => ce_if (decide (c.1 = 100) && decide (0 ≤ i ∧ i.toNat < c.2.1)) (g d y (pc + 1) ls r (h.set j (c.1, c.2.1, c.2.2.1, (i.toNat, z) :: c.2.2.2)))))))
  | .aastore => ce_1 2 st (fun z r1 => ce_1 0 r1 (fun i r2 => ce_1 2 r2 (fun a r => ce_c h a (fun j c => ce_c h z (fun _ c2 => ce_if (decide (c.1 = 103 ∧ c2.1 = 9 ∨ c.1 = 104 ∧ c2.1 = 1 ∨ c.1 = 105 ∧ c2.1 = 4) && decide (0 ≤ i ∧ i.toNat < c.2.1)) (g d y (pc + 1) ls r (h.set j (c.1, c.2.1, c.2.2.1, (i.toNat, z) :: c.2.2.2))))))))
  | .arraylength => ce_1 2 st (fun a r => ce_c h a (fun _ c => ce_if (decide (100 ≤ c.1 ∧ c.1 ≤ 105)) (g d y (pc + 1) ls ((0, (c.2.1 : Int)) :: r) h)))
  | .newarray _ => ce_1 0 st (fun n r => ce_if (decide (0 ≤ n ∧ n ≤ 100000)) (ce_add 1 n.toNat (g d y (pc + 2) ls ((2, ((h.length + 1 : Nat) : Int)) :: r) (h ++ [(e1, n.toNat, 0, [])]))))
  | .anewarray _ => ce_1 0 st (fun n r => ce_if (decide (0 ≤ n ∧ n ≤ 100000)) (ce_add 1 n.toNat (g d y (pc + 3) ls ((2, ((h.length + 1 : Nat) : Int)) :: r) (h ++ [(e1, n.toNat, 1, [])]))))
  | .new _ => ce_add 1 (pm_nf e1) (g d y (pc + 3) ls ((2, ((h.length + 1 : Nat) : Int)) :: st) (h ++ [(e1, 0, e1 + 2, [])]))
  | .invokevirtual _ => ce_if (decide ((pm_md e1).2.2.2.2.1 ≤ st.length)) (ce_1 2 (st.drop (pm_md e1).2.2.2.2.1) (fun a r => ce_c h a (fun _ c => ce_if (decide (c.1 = (pm_md e1).2.2.2.2.2)) (ce_call g d y pc ls h e1 ((2, a) :: (st.take (pm_md e1).2.2.2.2.1).reverse) r))))
  | .invokespecial _ => (match decide (e1 = 999) with
    | true => ce_1 2 st (fun a r => ce_if (decide (0 ≤ a ∧ (r.map pm_cat).sum ≤ 8 ∧ 1 ≤ d)) (g d y (pc + 3) ls r h))
    | false => ce_if (decide ((pm_md e1).2.2.2.2.1 ≤ st.length)) (ce_1 2 (st.drop (pm_md e1).2.2.2.2.1) (fun a r => ce_if (decide (0 ≤ a)) (ce_call g d y pc ls h e1 ((2, a) :: (st.take (pm_md e1).2.2.2.2.1).reverse) r))))
  | .return_ => (match st with
    | [] => some (none, h, 0, 0)
    | _ => none)
  | _ => none
def ce_G (g : ce_K) : Prop := ∀ (d y pc : Nat) (ls st : List pm_V) (h : List ce_C) (ρ : Option pm_V) (h' : List ce_C) (uc us : Nat), g d y pc ls st h = some (ρ, h', uc, us) → ∀ (S : pm_C) (cb sb : Nat) (Q : pm_Q), uc ≤ cb → us ≤ sb → Q ρ (ce_M S h') → Wp d y pc ls st (ce_M S h) cb sb Q
theorem ce_call_ok {g : ce_K} (ih : ce_G g) {d y pc y' : Nat} {ls as r : List pm_V} {h h' : List ce_C} {ρ : Option pm_V} {uc us : Nat} (e : ce_call g d y pc ls h y' as r = some (ρ, h', uc, us)) {S : pm_C} {cb sb : Nat} {Q : pm_Q} (b1 : uc ≤ cb) (b2 : us ≤ sb) (q : Q ρ (ce_M S h')) : pm_call pm_md Wp d y pc ls (ce_M S h) cb sb Q y' as r := by
  obtain ⟨c1, c2⟩ := ce_if_ok e
  rw [Bool.and_eq_true] at c1
  have l1 := of_decide_eq_true c1.1
  have l2 := of_decide_eq_true c1.2
  cases d with
  | zero => cases c2
  | succ d =>
    cases k : g d y' 0 (pm_en as (pm_md y').2.2.1) [] h with
    | none =>
      have c3 : (match g d y' 0 (pm_en as (pm_md y').2.2.1) [] h with | some (ρ, h1, c1, s1) => ce_add c1 s1 (g (d + 1) y (pc + 3) ls (ρ.toList ++ r) h1) | none => none) = some (ρ, h', uc, us) := c2
      rw [k] at c3
      cases c3
    | some x =>
      obtain ⟨ρ1, h1, uc1, us1⟩ := x
      have c3 : (match g d y' 0 (pm_en as (pm_md y').2.2.1) [] h with | some (ρ, h1, c1, s1) => ce_add c1 s1 (g (d + 1) y (pc + 3) ls (ρ.toList ++ r) h1) | none => none) = some (ρ, h', uc, us) := c2
      rw [k] at c3
      obtain ⟨uc2, us2, k2, eu, es⟩ := ce_add_ok c3
      refine ⟨l1, l2, d, uc1, us1, (fun ρ' M' => ρ' = ρ1 ∧ M' = ce_M S h1), rfl, by omega, by omega, ih _ _ _ _ _ _ _ _ _ _ k S uc1 us1 _ (Nat.le_refl _) (Nat.le_refl _) ⟨rfl, rfl⟩, ?_⟩
      rintro _ _ ⟨rfl, rfl⟩
      exact ih _ _ _ _ _ _ _ _ _ _ k2 S _ _ Q (by omega) (by omega) q
theorem ce_ob {S : pm_C} {h : List ce_C} {j : Nat} {c : ce_C} (e : h[j]? = some c) {x : Nat} (hc : c.1 = x) : pm_ob (ce_M S h) ((j + 1 : Nat) : Int) x := ⟨by omega, ce_lt e, by show pm_kd (ce_M S h) (j + 1) = x; rw [ce_kd e, hc]⟩
theorem ce_ix {S : pm_C} {h : List ce_C} {j : Nat} {c : ce_C} (e : h[j]? = some c) {x : Nat} (hc : c.1 = x) {i : Int} (h0 : 0 ≤ i) (h1 : i.toNat < c.2.1) : pm_ix (ce_M S h) ((j + 1 : Nat) : Int) i x := ⟨by omega, ce_lt e, by show pm_kd (ce_M S h) (j + 1) = x; rw [ce_kd e, hc], h0, by show i.toNat < pm_ln (ce_M S h) (j + 1); rw [ce_ln e]; exact h1⟩
theorem ce_nw (S : pm_C) (h : List ce_C) (x : Nat) : pm_new (ce_M S h) (x, 0, fun k => pm_df (pm_ft x k)) = ce_M S (h ++ [(x, 0, x + 2, [])]) := by
  rw [← ce_new]
  have e : ce_s (x, 0, x + 2, []) = (x, 0, fun k => pm_df (pm_ft x k)) := by
    show (x, 0, ce_b (x + 2)) = _
    unfold ce_b
    rw [if_neg (by omega), if_neg (by omega), Nat.add_sub_cancel]
  rw [e]
