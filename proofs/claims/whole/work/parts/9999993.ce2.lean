/-! ===== a run on known cells is a run ===== -/
set_option maxHeartbeats 4000000 in
theorem ce_sx {g : ce_K} (ih : ce_G g) {d y pc e1 e2 : Nat} {e3 : Int} {ls st : List pm_V} {h h' : List ce_C} {i : Instr} {ρ : Option pm_V} {uc us : Nat} (e : ce_x g d y pc ls st h e1 e2 e3 i = some (ρ, h', uc, us)) {S : pm_C} {cb sb : Nat} {Q : pm_Q} (b1 : uc ≤ cb) (b2 : us ≤ sb) (q : Q ρ (ce_M S h')) : pm_ex pm_md pm_ft pm_nf Wp d y pc ls st (ce_M S h) cb sb Q e1 e2 e3 i := by
  have go : ∀ {pc' : Nat} {ls' st' : List pm_V} {k : List ce_C}, g d y pc' ls' st' k = some (ρ, h', uc, us) → Wp d y pc' ls' st' (ce_M S k) cb sb Q := fun e => ih _ _ _ _ _ _ _ _ _ _ e S cb sb Q b1 b2 q
  cases i
  case iconst n => exact go e
  case bipush n => exact go e
  case sipush n => exact go e
  case ldc n => exact go e
  case goto off => exact go e
  case iload_n k =>
    dsimp only [ce_x] at e
    obtain ⟨z, e1', w1⟩ := ce_l_ok e
    exact pm_ld_mk (k := fun z => Wp d y (pc + 1) ls ((0, z) :: st) (ce_M S h) cb sb Q) e1' (go w1)
  case aload_n k =>
    dsimp only [ce_x] at e
    obtain ⟨z, e1', w1⟩ := ce_l_ok e
    obtain ⟨z0, w2⟩ := ce_if_ok w1
    exact pm_ld_mk (k := fun z => 0 ≤ z ∧ Wp d y (pc + 1) ls ((2, z) :: st) (ce_M S h) cb sb Q) e1' ⟨of_decide_eq_true z0, go w2⟩
  case istore_n k =>
    dsimp only [ce_x] at e
    obtain ⟨z, r, rfl, w1⟩ := ce_1_ok e
    obtain ⟨s1, w2⟩ := ce_if_ok w1
    exact ⟨s1, go w2⟩
  case iinc k n =>
    dsimp only [ce_x] at e
    obtain ⟨z, e1', w1⟩ := ce_l_ok e
    obtain ⟨s1, w2⟩ := ce_if_ok w1
    exact pm_ld_mk (k := fun z => pm_s1 ls k = true ∧ Wp d y (pc + 3) (ls.set k (0, z + n)) st (ce_M S h) cb sb Q) e1' ⟨s1, go w2⟩
  case if_icmp c off =>
    dsimp only [ce_x] at e
    obtain ⟨b, r1, rfl, w1⟩ := ce_1_ok e
    obtain ⟨a, r, rfl, w2⟩ := ce_1_ok w1
    obtain ⟨s1, w3⟩ := ce_if_ok w2
    rw [Bool.and_eq_true] at s1
    have ea := ce_inI_ok s1.1
    have eb := ce_inI_ok s1.2
    show (pm_cnd c (pm_wI a) (pm_wI b) → Wp d y ((pc : Int) + off).toNat ls r (ce_M S h) cb sb Q) ∧ (¬ pm_cnd c (pm_wI a) (pm_wI b) → Wp d y (pc + 3) ls r (ce_M S h) cb sb Q)
    rw [ea, eb]
    cases k : ce_cn c a b with
    | true =>
      rw [k] at w3
      exact ⟨fun _ => go w3, fun w => absurd (ce_cn_t k) w⟩
    | false =>
      rw [k] at w3
      exact ⟨fun w => absurd w (ce_cn_f k), fun _ => go w3⟩
  case dup =>
    cases st with
    | nil => cases e
    | cons v r =>
      obtain ⟨s1, w1⟩ := ce_if_ok e
      exact ⟨of_decide_eq_true s1, go w1⟩
  case getfield n =>
    dsimp only [ce_x] at e
    obtain ⟨a, r, rfl, w1⟩ := ce_1_ok e
    obtain ⟨j, c, rfl, hj, w2⟩ := ce_c_ok w1
    obtain ⟨s1, w3⟩ := ce_if_ok w2
    refine ⟨ce_ob hj (of_decide_eq_true s1), ?_⟩
    show Wp d y (pc + 3) ls ((e3.toNat, pm_ct (ce_M S h) (j + 1) e2) :: r) (ce_M S h) cb sb Q
    rw [ce_ct hj]
    exact go w3
  case putfield n =>
    dsimp only [ce_x] at e
    obtain ⟨z, r1, rfl, w1⟩ := ce_1_ok e
    obtain ⟨a, r, rfl, w2⟩ := ce_1_ok w1
    obtain ⟨j, c, rfl, hj, w3⟩ := ce_c_ok w2
    obtain ⟨s1, w4⟩ := ce_if_ok w3
    rw [Bool.and_eq_true] at s1
    refine ⟨rfl, ce_ob hj (of_decide_eq_true s1.1), fun w => ?_, ?_⟩
    · have s2 := s1.2
      rw [w] at s2
      exact of_decide_eq_true s2
    · show Wp d y (pc + 3) ls r (pm_up (ce_M S h) (j + 1) (pm_upd (pm_ct (ce_M S h) (j + 1)) e2 z)) cb sb Q
      rw [ce_up hj]
      exact go w4
  case iastore =>
    dsimp only [ce_x] at e
    obtain ⟨z, r1, rfl, w1⟩ := ce_1_ok e
    obtain ⟨i, r2, rfl, w2⟩ := ce_1_ok w1
    obtain ⟨a, r, rfl, w3⟩ := ce_1_ok w2
    obtain ⟨j, c, rfl, hj, w4⟩ := ce_c_ok w3
    obtain ⟨s1, w5⟩ := ce_if_ok w4
    rw [Bool.and_eq_true] at s1
    have s2 := of_decide_eq_true s1.2
    refine ⟨rfl, by omega, ce_ix hj (of_decide_eq_true s1.1) s2.1 s2.2, ?_⟩
    show Wp d y (pc + 1) ls r (pm_up (ce_M S h) (j + 1) (pm_upd (pm_ct (ce_M S h) (j + 1)) i.toNat z)) cb sb Q
    rw [ce_up hj]
    exact go w5
  case aastore =>
    dsimp only [ce_x] at e
    obtain ⟨z, r1, rfl, w1⟩ := ce_1_ok e
    obtain ⟨i, r2, rfl, w2⟩ := ce_1_ok w1
    obtain ⟨a, r, rfl, w3⟩ := ce_1_ok w2
    obtain ⟨j, c, rfl, hj, w4⟩ := ce_c_ok w3
    obtain ⟨j2, c2, rfl, hj2, w5⟩ := ce_c_ok w4
    obtain ⟨s1, w6⟩ := ce_if_ok w5
    rw [Bool.and_eq_true] at s1
    have s2 := of_decide_eq_true s1.2
    have s3 := of_decide_eq_true s1.1
    have fin : Wp d y (pc + 1) ls r (pm_up (ce_M S h) (j + 1) (pm_upd (pm_ct (ce_M S h) (j + 1)) i.toNat ((j2 + 1 : Nat) : Int))) cb sb Q := by
      rw [ce_up hj]
      exact go w6
    refine ⟨rfl, by omega, ?_⟩
    rcases s3 with ⟨t1, t2⟩ | ⟨t1, t2⟩ | ⟨t1, t2⟩
    · exact ⟨9, Or.inl ⟨ce_ix hj t1 s2.1 s2.2, rfl⟩, ce_ob hj2 t2, fin⟩
    · exact ⟨1, Or.inr (Or.inl ⟨ce_ix hj t1 s2.1 s2.2, rfl⟩), ce_ob hj2 t2, fin⟩
    · exact ⟨4, Or.inr (Or.inr ⟨ce_ix hj t1 s2.1 s2.2, rfl⟩), ce_ob hj2 t2, fin⟩
  case arraylength =>
    dsimp only [ce_x] at e
    obtain ⟨a, r, rfl, w1⟩ := ce_1_ok e
    obtain ⟨j, c, rfl, hj, w2⟩ := ce_c_ok w1
    obtain ⟨s1, w3⟩ := ce_if_ok w2
    have s2 := of_decide_eq_true s1
    refine ⟨by omega, ce_lt hj, ?_, ?_, ?_⟩
    · show 100 ≤ pm_kd (ce_M S h) (j + 1)
      rw [ce_kd hj]; exact s2.1
    · show pm_kd (ce_M S h) (j + 1) ≤ 105
      rw [ce_kd hj]; exact s2.2
    · show Wp d y (pc + 1) ls ((0, (pm_ln (ce_M S h) (j + 1) : Int)) :: r) (ce_M S h) cb sb Q
      rw [ce_ln hj]
      exact go w3
  case newarray t =>
    dsimp only [ce_x] at e
    obtain ⟨n, r, rfl, w1⟩ := ce_1_ok e
    obtain ⟨s1, w2⟩ := ce_if_ok w1
    have s2 := of_decide_eq_true s1
    obtain ⟨uc1, us1, w3, eu, es⟩ := ce_add_ok w2
    refine ⟨s2.1, s2.2, by omega, by omega, ?_⟩
    have nw := ce_new S h (e1, n.toNat, 0, [])
    have nw' : pm_new (ce_M S h) (e1, n.toNat, fun _ => 0) = ce_M S (h ++ [(e1, n.toNat, 0, [])]) := nw
    rw [nw']
    exact ih _ _ _ _ _ _ _ _ _ _ w3 S _ _ Q (by omega) (by omega) q
  case anewarray t =>
    dsimp only [ce_x] at e
    obtain ⟨n, r, rfl, w1⟩ := ce_1_ok e
    obtain ⟨s1, w2⟩ := ce_if_ok w1
    have s2 := of_decide_eq_true s1
    obtain ⟨uc1, us1, w3, eu, es⟩ := ce_add_ok w2
    refine ⟨s2.1, s2.2, by omega, by omega, ?_⟩
    have nw := ce_new S h (e1, n.toNat, 1, [])
    have nw' : pm_new (ce_M S h) (e1, n.toNat, fun _ => -1) = ce_M S (h ++ [(e1, n.toNat, 1, [])]) := nw
    rw [nw']
    exact ih _ _ _ _ _ _ _ _ _ _ w3 S _ _ Q (by omega) (by omega) q
  case new t =>
    dsimp only [ce_x] at e
    obtain ⟨uc1, us1, w1, eu, es⟩ := ce_add_ok e
    refine ⟨by omega, by omega, ?_⟩
    rw [ce_nw]
    exact ih _ _ _ _ _ _ _ _ _ _ w1 S _ _ Q (by omega) (by omega) q
  case invokevirtual n =>
    dsimp only [ce_x] at e
    obtain ⟨s1, w1⟩ := ce_if_ok e
    obtain ⟨a, r, hr, w2⟩ := ce_1_ok w1
    obtain ⟨j, c, rfl, hj, w3⟩ := ce_c_ok w2
    obtain ⟨s2, w4⟩ := ce_if_ok w3
    refine ⟨of_decide_eq_true s1, ?_⟩
    rw [hr]
    exact ⟨ce_ob hj (of_decide_eq_true s2), ce_call_ok ih w4 b1 b2 q⟩
  case invokespecial n =>
    show (if e1 = 999 then _ else _)
    by_cases k : e1 = 999
    · rw [if_pos k]
      have k1 : decide (e1 = 999) = true := decide_eq_true k
      have e' : (match decide (e1 = 999) with
        | true => ce_1 2 st (fun a r => ce_if (decide (0 ≤ a ∧ (r.map pm_cat).sum ≤ 8 ∧ 1 ≤ d)) (g d y (pc + 3) ls r h))
        | false => ce_if (decide ((pm_md e1).2.2.2.2.1 ≤ st.length)) (ce_1 2 (st.drop (pm_md e1).2.2.2.2.1) (fun a r => ce_if (decide (0 ≤ a)) (ce_call g d y pc ls h e1 ((2, a) :: (st.take (pm_md e1).2.2.2.2.1).reverse) r)))) = some (ρ, h', uc, us) := e
      rw [k1] at e'
      obtain ⟨a, r, rfl, w1⟩ := ce_1_ok e'
      obtain ⟨s1, w2⟩ := ce_if_ok w1
      have s2 := of_decide_eq_true s1
      exact ⟨s2.1, s2.2.1, s2.2.2, go w2⟩
    · rw [if_neg k]
      have k1 : decide (e1 = 999) = false := decide_eq_false k
      have e' : (match decide (e1 = 999) with
        | true => ce_1 2 st (fun a r => ce_if (decide (0 ≤ a ∧ (r.map pm_cat).sum ≤ 8 ∧ 1 ≤ d)) (g d y (pc + 3) ls r h))
        | false => ce_if (decide ((pm_md e1).2.2.2.2.1 ≤ st.length)) (ce_1 2 (st.drop (pm_md e1).2.2.2.2.1) (fun a r => ce_if (decide (0 ≤ a)) (ce_call g d y pc ls h e1 ((2, a) :: (st.take (pm_md e1).2.2.2.2.1).reverse) r)))) = some (ρ, h', uc, us) := e
      rw [k1] at e'
      obtain ⟨s1, w1⟩ := ce_if_ok e'
      obtain ⟨a, r, hr, w2⟩ := ce_1_ok w1
      obtain ⟨s2, w3⟩ := ce_if_ok w2
      refine ⟨of_decide_eq_true s1, ?_⟩
      rw [hr]
      exact ⟨of_decide_eq_true s2, ce_call_ok ih w3 b1 b2 q⟩
  case return_ =>
    cases st with
    | nil =>
      cases e
      exact q
    | cons v r => cases e
  all_goals cases e
def ce : Nat → ce_K
  | 0 => fun _ _ _ _ _ _ => none
  | f + 1 => fun d y pc ls st h => match pm_look (pm_code y) pc with
    | some I => ce_x (ce f) d y pc ls st h I.2.2.2.1 I.2.2.2.2.1 I.2.2.2.2.2.1 I.2.1
    | none => none
theorem ce_ok : ∀ f, ce_G (ce f)
  | 0 => fun _ _ _ _ _ _ _ _ _ _ e => by cases e
  | f + 1 => fun d y pc ls st h ρ h' uc us e S cb sb Q b1 b2 q => by
    have e' : (match pm_look (pm_code y) pc with
      | some I => ce_x (ce f) d y pc ls st h I.2.2.2.1 I.2.2.2.2.1 I.2.2.2.2.2.1 I.2.1
      | none => none) = some (ρ, h', uc, us) := e
    cases k : pm_look (pm_code y) pc with
    | none => rw [k] at e'; cases e'
    | some I =>
      rw [k] at e'
      exact pm_go _ _ _ _ ⟨I, k, ce_sx (ce_ok f) e' b1 b2 q⟩
