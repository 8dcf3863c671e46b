/-! ===== the lines of a text, a row an outcome ===== -/
theorem pLs_end {ch : Nat → Nat} {n f w : Nat} {T : Tab} {Ts : List Nt} {t : Tok} (h : t.1 = 0) : pLs ch n (f + 1) T w Ts t = .inr (T, Ts) := by
  show (if _ then _ else _) = _
  rw [if_pos h]
theorem pLs_t0 {ch : Nat → Nat} {n f w : Nat} {T : Tab} {Ts : List Nt} {t : Tok} (h : ¬ t.1 = 0) (k : t.1 = 1 ∧ twd ch t = wTree) {e : Nat × Nat} (hp : pTree ch n (tR T) (tC T) Ts t = .inl e) : pLs ch n (f + 1) T w Ts t = .inl e := by
  show (if _ then _ else _) = _
  rw [if_neg h, if_pos k, hp]
theorem pLs_t1 {ch : Nat → Nat} {n f w : Nat} {T : Tab} {Ts : List Nt} {t t' : Tok} {x : Nt} (h : ¬ t.1 = 0) (k : t.1 = 1 ∧ twd ch t = wTree) (hp : pTree ch n (tR T) (tC T) Ts t = .inr (x, t')) : pLs ch n (f + 1) T w Ts t = pLs ch n f T w (Ts ++ [x]) t' := by
  show (if _ then _ else _) = _
  rw [if_neg h, if_pos k, hp]
theorem pLs_c0 {ch : Nat → Nat} {n f w : Nat} {T : Tab} {Ts : List Nt} {t : Tok} (h : ¬ t.1 = 0) (k : ¬ (t.1 = 1 ∧ twd ch t = wTree)) {e : Nat × Nat} (hp : pCost ch n T w t = .inl e) : pLs ch n (f + 1) T w Ts t = .inl e := by
  show (if _ then _ else _) = _
  rw [if_neg h, if_neg k, hp]
theorem pLs_c1 {ch : Nat → Nat} {n f w : Nat} {T T' : Tab} {Ts : List Nt} {t t' : Tok} (h : ¬ t.1 = 0) (k : ¬ (t.1 = 1 ∧ twd ch t = wTree)) (hp : pCost ch n T w t = .inr (T', t')) : pLs ch n (f + 1) T w Ts t = pLs ch n f T' 1 Ts t' := by
  show (if _ then _ else _) = _
  rw [if_neg h, if_neg k, hp]
theorem pCost_ok {ch : Nat → Nat} {n w : Nat} {T T' : Tab} {t t' : Tok} (hn : n ≤ 500) (hK : TkOK ch n t) (e : pCost ch n T w t = .inr (T', t')) : TkOK ch n t' ∧ t.2.1 < t'.2.1 ∧ w = 0 ∧ ∃ a b, 1 ≤ a ∧ a ≤ 9 ∧ 1 ≤ b ∧ b ≤ 9 ∧ T' = (tR T, tC T, T.2.2.1, a, b) := by
  by_cases g : t.1 = 1 ∧ twd ch t = wCost ∧ w = 0
  · obtain ⟨u1, v1⟩ := lxt_ok (ch := ch) hK.2.2.1 hn
    obtain ⟨u2, v2⟩ := lxt_ok (ch := ch) u1.2.2.1 hn
    obtain ⟨u3, v3⟩ := lxt_ok (ch := ch) u2.2.2.1 hn
    cases k1 : pNum ch 1 (lxt ch n t.2.2) with
    | inl x => rw [pCost_0 g k1] at e; cases e
    | inr a =>
      cases k2 : pNum ch 1 (lxt ch n (lxt ch n t.2.2).2.2) with
      | inl x => rw [pCost_1 g k1 k2] at e; cases e
      | inr b =>
        cases k3 : pStop ch n (lxt ch n (lxt ch n (lxt ch n t.2.2).2.2).2.2) with
        | inl x => rw [pCost_2 g k1 k2 k3] at e; cases e
        | inr y =>
          rw [pCost_3 g k1 k2 k3] at e
          cases e
          obtain ⟨s1, s2⟩ := pStop_ok hn u3 k3
          have a9 := num_9 u1 k1
          have b9 := num_9 u2 k2
          have q1 := hK.2.1
          have q2 := u1.2.1
          have q3 := u2.2.1
          exact ⟨s1, by omega, g.2.2, a, b, a9.1, a9.2, b9.1, b9.2, rfl⟩
  · rw [pCost_no g] at e; cases e
theorem pN_on {ch : Nat → Nat} {n R C : Nat} (hn : n ≤ 500) : ∀ (f : Nat) {d c q : Nat} {t t' : Tok} {L : List Ne}, TkOK ch n t → pN ch n R C f d c q t = .inr (L, t') → t.2.1 ≤ t'.2.1
  | 0, _, _, _, _, _, _, _, e => by cases e
  | f + 1, d, c, q, t, t', L, hK, e => by
    obtain ⟨u1, v1⟩ := lxt_ok (ch := ch) hK.2.2.1 hn
    obtain ⟨u2, v2⟩ := lxt_ok (ch := ch) u1.2.2.1 hn
    have q1 := hK.2.1
    have q2 := u1.2.1
    by_cases a : isNd ch t
    · by_cases b : 9 ≤ d ∨ 31 ≤ c
      · rw [pN_full a b] at e; cases e
      · by_cases g : twd ch t = wLeaf
        · cases hp : pNum ch 0 (lxt ch n t.2.2) with
          | inl x => rw [pN_lf0 a b g hp] at e; cases e
          | inr v =>
            rw [pN_lf1 a b g hp] at e
            cases e
            omega
        · cases hp : pSet ch (if twd ch t = wdA then R else C) (lxt ch n t.2.2) with
          | inl x => rw [pN_nd0 a b g hp] at e; cases e
          | inr s =>
            cases k1 : pN ch n R C f (d + 1) (c + 1) c (lxt ch n (lxt ch n t.2.2).2.2) with
            | inl x => rw [pN_nd1 a b g hp k1] at e; cases e
            | inr y =>
              obtain ⟨L1, t1⟩ := y
              have o1 := (pN_ok hn f u2 k1).1
              have w1 := pN_on hn f u2 k1
              cases k2 : pN ch n R C f (d + 1) (c + 1 + L1.length) c t1 with
              | inl x => rw [pN_nd2 a b g hp k1 k2] at e; cases e
              | inr y =>
                obtain ⟨L2, t2⟩ := y
                have w2 := pN_on hn f o1 k2
                rw [pN_nd3 a b g hp k1 k2] at e
                cases e
                omega
    · rw [pN_no a] at e; cases e
theorem pTree_all {ch : Nat → Nat} {n R C : Nat} {Ts : List Nt} {t t' : Tok} {x : Nt} (hn : n ≤ 500) (hK : TkOK ch n t) (e : pTree ch n R C Ts t = .inr (x, t')) : TkOK ch n t' ∧ t.2.1 < t'.2.1 ∧ Ts.length < 4 ∧ x.1 ∉ Ts.map (fun y => y.1) ∧ LtOK x.1 ∧ ∃ t0 t1, TkOK ch n t0 ∧ pN ch n R C 10 0 0 0 t0 = .inr (x.2, t1) := by
  obtain ⟨u1, v1⟩ := lxt_ok (ch := ch) hK.2.2.1 hn
  obtain ⟨u2, v2⟩ := lxt_ok (ch := ch) u1.2.2.1 hn
  have q1 := hK.2.1
  have q2 := u1.2.1
  by_cases a : 4 ≤ Ts.length
  · rw [pTree_5 a] at e; cases e
  · by_cases b : isNm ch (lxt ch n t.2.2)
    · by_cases c : twd ch (lxt ch n t.2.2) ∈ Ts.map (fun x => x.1)
      · rw [pTree_3 a b c] at e; cases e
      · cases k1 : pN ch n R C 10 0 0 0 (lxt ch n (lxt ch n t.2.2).2.2) with
        | inl y => rw [pTree_n a b c k1] at e; cases e
        | inr y =>
          obtain ⟨L, t1⟩ := y
          have o1 := (pN_ok hn 10 u2 k1).1
          have o2 := pN_on hn 10 u2 k1
          cases k2 : pStop ch n t1 with
          | inl y => rw [pTree_s a b c k1 k2] at e; cases e
          | inr y =>
            obtain ⟨s1, s2⟩ := pStop_ok hn o1 k2
            rw [pTree_ok a b c k1 k2] at e
            cases e
            exact ⟨s1, by omega, by omega, c, u1.lt b.1, _, t1, u2, k1⟩
    · rw [pTree_2 a b] at e; cases e
