/-! ===== nodes that were read make a tree ===== -/
def NeOK (L : List Ne) (c i : Nat) (x : Ne) : Prop := x.1.1 ≤ 2 ∧ x.1.2.1 < 64 ∧ x.2.1 ≤ 8 ∧ (x.1.1 = 0 → x.1.2.1 ≤ 9) ∧ (x.1.1 ≠ 0 → ∃ (j : Nat) (y z : Ne), L[i + 1]? = some y ∧ y.2 = (x.2.1 + 1, c + i) ∧ x.1.2.2 = ((c + j : Nat) : Int) ∧ i + 1 < j ∧ L[j]? = some z ∧ z.2 = (x.2.1 + 1, c + i))
def NuOK (L : List Ne) (c i : Nat) (x : Ne) : Prop := ∃ (j : Nat) (y : Ne), j < i ∧ L[j]? = some y ∧ x.2.2 = c + j ∧ y.1.1 ≠ 0 ∧ (i = j + 1 ∨ y.1.2.2 = ((c + i : Nat) : Int))
theorem NeOK.emb {K L : List Ne} {c o i : Nat} {x : Ne} (h : ∀ (i : Nat) (x : Ne), K[i]? = some x → L[o + i]? = some x) (k : NeOK K (c + o) i x) : NeOK L c (o + i) x := by
  obtain ⟨a1, a2, a3, a4, a5⟩ := k
  refine ⟨a1, a2, a3, a4, fun q => ?_⟩
  obtain ⟨j, y, z, b1, b2, b3, b4, b5, b6⟩ := a5 q
  refine ⟨o + j, y, z, h _ _ b1, ?_, ?_, by omega, h _ _ b5, ?_⟩
  · rw [b2, Nat.add_assoc]
  · rw [b3, Nat.add_assoc]
  · rw [b6, Nat.add_assoc]
theorem NuOK.emb {K L : List Ne} {c o i : Nat} {x : Ne} (h : ∀ (i : Nat) (x : Ne), K[i]? = some x → L[o + i]? = some x) (k : NuOK K (c + o) i x) : NuOK L c (o + i) x := by
  obtain ⟨j, y, b1, b2, b3, b4, b5⟩ := k
  refine ⟨o + j, y, by omega, h _ _ b2, by omega, b4, ?_⟩
  rcases b5 with e | e
  · left; omega
  · right; rw [e, Nat.add_assoc]
def NsOK (L : List Ne) (c d q : Nat) : Prop := (∃ x, L[0]? = some x ∧ x.2 = (d, q)) ∧ ∀ (i : Nat) (x : Ne), L[i]? = some x → NeOK L c i x ∧ (0 < i → NuOK L c i x)
theorem pSet_64 {ch : Nat → Nat} {many s : Nat} {t : Tok} (hm : many ≤ 6) (h : pSet ch many t = .inr s) : s < 64 := by
  unfold pSet at h
  by_cases a : t.1 = 2
  · rw [if_pos a] at h
    cases e : sc ch many (t.2.2 - t.2.1) t.2.1 0 with
    | none => rw [e] at h; cases h
    | some v => rw [e] at h; cases h; exact (sc_bd hm (by omega) e).1
  · rw [if_neg a] at h; cases h
theorem NsOK.node {L1 L2 : List Ne} {c d q : Nat} {x s : Nat} (hx : x = 1 ∨ x = 2) (hs : s < 64) (d8 : d ≤ 8) (l1 : 1 ≤ L1.length) (h1 : NsOK L1 (c + 1) (d + 1) c) (h2 : NsOK L2 (c + 1 + L1.length) (d + 1) c) : NsOK (((x, s, ((c + 1 + L1.length : Nat) : Int)), d, q) :: (L1 ++ L2)) c d q := by
  have e1 : ∀ (i : Nat) (y : Ne), L1[i]? = some y → (((x, s, ((c + 1 + L1.length : Nat) : Int)), d, q) :: (L1 ++ L2))[1 + i]? = some y := fun i y hy => by
    rw [Nat.add_comm 1 i, List.getElem?_cons_succ, List.getElem?_append_left ((List.getElem?_eq_some_iff.mp hy).1)]; exact hy
  have e2 : ∀ (i : Nat) (y : Ne), L2[i]? = some y → (((x, s, ((c + 1 + L1.length : Nat) : Int)), d, q) :: (L1 ++ L2))[(1 + L1.length) + i]? = some y := fun i y hy => by
    have e : 1 + L1.length + i = (L1.length + i) + 1 := by omega
    rw [e, List.getElem?_cons_succ, List.getElem?_append_right (by omega), Nat.add_sub_cancel_left]; exact hy
  obtain ⟨⟨y, y1, y2⟩, a1⟩ := h1
  obtain ⟨⟨z, z1, z2⟩, a2⟩ := h2
  have e3 : c + 1 + L1.length = c + (1 + L1.length) := by omega
  refine ⟨⟨_, rfl, rfl⟩, fun i w hw => ?_⟩
  rcases Nat.eq_zero_or_pos i with i0 | i0
  · rw [i0] at hw ⊢
    have ew : w = ((x, s, ((c + 1 + L1.length : Nat) : Int)), d, q) := (Option.some.inj hw).symm
    rw [ew]
    refine ⟨⟨by show x ≤ 2; omega, hs, d8, fun q => ?_, fun _ => ⟨1 + L1.length, y, z, e1 0 y y1, y2, ?_, by omega, e2 0 z z1, z2⟩⟩, fun q => absurd q (Nat.lt_irrefl 0)⟩
    · have : x = 0 := q
      omega
    · show ((c + 1 + L1.length : Nat) : Int) = _
      rw [e3]
  · obtain ⟨i, rfl⟩ : ∃ j, i = 1 + j := ⟨i - 1, by omega⟩
    rcases Nat.lt_or_ge i L1.length with il | il
    · have hw1 : L1[i]? = some w := by
        rw [Nat.add_comm 1 i, List.getElem?_cons_succ, List.getElem?_append_left il] at hw; exact hw
      obtain ⟨b1, b2⟩ := a1 i w hw1
      refine ⟨b1.emb e1, fun _ => ?_⟩
      rcases Nat.eq_zero_or_pos i with j0 | j0
      · rw [j0] at hw1 ⊢
        rw [hw1] at y1
        have ey : w = y := Option.some.inj y1
        refine ⟨0, _, by omega, rfl, ?_, ?_, Or.inl rfl⟩
        · rw [ey, y2]; rfl
        · show x ≠ 0
          omega
      · exact (b2 j0).emb e1
    · obtain ⟨i, rfl⟩ : ∃ j, i = L1.length + j := ⟨i - L1.length, by omega⟩
      have e4 : 1 + (L1.length + i) = (1 + L1.length) + i := by omega
      have hw2 : L2[i]? = some w := by
        rw [Nat.add_comm 1 (L1.length + i), List.getElem?_cons_succ, List.getElem?_append_right (by omega), Nat.add_sub_cancel_left] at hw; exact hw
      obtain ⟨b1, b2⟩ := a2 i w hw2
      rw [e3] at b1 b2
      rw [e4]
      refine ⟨b1.emb e2, fun _ => ?_⟩
      rcases Nat.eq_zero_or_pos i with j0 | j0
      · rw [j0] at hw2 ⊢
        rw [hw2] at z1
        have ez : w = z := Option.some.inj z1
        refine ⟨0, _, by omega, rfl, ?_, ?_, Or.inr ?_⟩
        · rw [ez, z2]; rfl
        · show x ≠ 0
          omega
        · show ((c + 1 + L1.length : Nat) : Int) = ((c + (1 + L1.length + 0) : Nat) : Int)
          omega
      · exact (b2 j0).emb e2
theorem pN_wf {ch : Nat → Nat} {n R C : Nat} (hn : n ≤ 500) (hR : R ≤ 6) (hC : C ≤ 6) : ∀ (f : Nat) {d c q : Nat} {t t' : Tok} {L : List Ne}, TkOK ch n t → pN ch n R C f d c q t = .inr (L, t') → NsOK L c d q
  | 0, _, _, _, _, _, _, _, e => by cases e
  | f + 1, d, c, q, t, t', L, hK, e => by
    have u1 := (lxt_ok (ch := ch) hK.2.2.1 hn).1
    have u2 := (lxt_ok (ch := ch) u1.2.2.1 hn).1
    by_cases a : isNd ch t
    · by_cases b : 9 ≤ d ∨ 31 ≤ c
      · rw [pN_full a b] at e; cases e
      · by_cases g : twd ch t = wLeaf
        · cases hp : pNum ch 0 (lxt ch n t.2.2) with
          | inl x => rw [pN_lf0 a b g hp] at e; cases e
          | inr v =>
            rw [pN_lf1 a b g hp] at e
            cases e
            have v9 := (num_9 u1 hp).2
            refine ⟨⟨_, rfl, rfl⟩, fun i x hx => ?_⟩
            cases i with
            | zero =>
              have ew := (Option.some.inj hx).symm
              rw [ew]
              refine ⟨⟨Nat.zero_le _, ?_, ?_, fun _ => v9, fun q => absurd rfl q⟩, fun q => absurd q (Nat.lt_irrefl 0)⟩
              · show v < 64
                omega
              · show d ≤ 8
                omega
            | succ i => cases hx
        · cases hp : pSet ch (if twd ch t = wdA then R else C) (lxt ch n t.2.2) with
          | inl x => rw [pN_nd0 a b g hp] at e; cases e
          | inr s =>
            cases k1 : pN ch n R C f (d + 1) (c + 1) c (lxt ch n (lxt ch n t.2.2).2.2) with
            | inl x => rw [pN_nd1 a b g hp k1] at e; cases e
            | inr y =>
              obtain ⟨L1, t1⟩ := y
              obtain ⟨v1, v2, v3⟩ := pN_ok hn f u2 k1
              cases k2 : pN ch n R C f (d + 1) (c + 1 + L1.length) c t1 with
              | inl x => rw [pN_nd2 a b g hp k1 k2] at e; cases e
              | inr y =>
                obtain ⟨L2, t2⟩ := y
                rw [pN_nd3 a b g hp k1 k2] at e
                cases e
                exact NsOK.node (by split <;> omega) (pSet_64 (by split <;> assumption) hp) (by omega) v2 (pN_wf hn hR hC f u2 k1) (pN_wf hn hR hC f v1 k2)
    · rw [pN_no a] at e; cases e
def neA (L : List Ne) (k : Nat) : Ne := L.getD k ((0, 0, 0), 0, 0)
theorem neA_get {L : List Ne} {k : Nat} {x : Ne} (h : L[k]? = some x) : neA L k = x := by
  unfold neA
  rw [List.getD_eq_getElem?_getD, h]; rfl
theorem ndA_ne (L : List Ne) (k : Nat) : ndA (L.map (fun y => y.1)) k = (neA L k).1 := by
  unfold ndA neA
  rw [List.getD_eq_getElem?_getD, List.getD_eq_getElem?_getD, List.getElem?_map]
  cases L[k]? <;> rfl
def neP (L : List Ne) (k : Nat) : Nat := (neA L k).2.2
def neD (L : List Ne) (k : Nat) : Nat := (neA L k).2.1
theorem NsOK.trx {L : List Ne} (l31 : L.length ≤ 31) (h : NsOK L 0 0 0) : TrX (L.map (fun y => y.1)) (neP L) (neD L) := by
  obtain ⟨⟨x0, x1, x2⟩, ha⟩ := h
  have l1 : 0 < L.length := (List.getElem?_eq_some_iff.mp x1).1
  have el : (L.map (fun y => y.1)).length = L.length := List.length_map _
  have ge : ∀ k, k < L.length → L[k]? = some (neA L k) := fun k hk => by
    unfold neA
    rw [List.getD_eq_getElem?_getD, List.getElem?_eq_getElem hk]; rfl
  refine ⟨⟨by omega, by omega, ?_, fun k hk => ?_⟩, ⟨fun k hk h0 => ?_, fun k k0 hk => ?_⟩, fun k hk => ?_⟩
  · show (neA L 0).2.1 = 0
    rw [neA_get x1, x2]
  · rw [el] at hk
    obtain ⟨⟨a1, a2, a3, a4, a5⟩, _⟩ := ha k _ (ge k hk)
    unfold NdOK neD
    rw [ndA_ne, el]
    refine ⟨a1, a2, by omega, fun q => ?_⟩
    obtain ⟨j, y, z, b1, b2, b3, b4, b5, b6⟩ := a5 q
    have jl := (List.getElem?_eq_some_iff.mp b5).1
    have e : (neA L k).1.2.2 = (j : Int) := by rw [b3]; omega
    rw [e]
    have e2 : ((j : Nat) : Int).toNat = j := Int.toNat_natCast j
    rw [e2, neA_get b1, neA_get b5, b2, b6]
    exact ⟨by omega, by omega, by omega, by omega, rfl, rfl⟩
  · rw [el] at hk
    rw [ndA_ne] at h0 ⊢
    obtain ⟨⟨a1, a2, a3, a4, a5⟩, _⟩ := ha k _ (ge k hk)
    obtain ⟨j, y, z, b1, b2, b3, b4, b5, b6⟩ := a5 h0
    have e : (neA L k).1.2.2 = (j : Int) := by rw [b3]; omega
    have e2 : ((j : Nat) : Int).toNat = j := Int.toNat_natCast j
    unfold neP
    rw [e, e2, neA_get b1, neA_get b5, b2, b6]
    exact ⟨by show 0 + k = k; omega, by show 0 + k = k; omega⟩
  · rw [el] at hk
    obtain ⟨j, y, b1, b2, b3, b4, b5⟩ := (ha k _ (ge k hk)).2 k0
    have ep : neP L k = j := by unfold neP; rw [b3]; omega
    rw [ep, ndA_ne, neA_get b2]
    refine ⟨b1, b4, ?_⟩
    rcases b5 with e | e
    · left; exact e
    · right; rw [e]; omega
  · rw [el] at hk
    obtain ⟨⟨a1, a2, a3, a4, a5⟩, _⟩ := ha k _ (ge k hk)
    rw [ndA_ne]
    exact ⟨a3, a4⟩
/-- trees that were read -/
def NtOK (x : Nt) : Prop := LtOK x.1 ∧ x.2.length ≤ 31 ∧ TrX (x.2.map (fun y => y.1)) (neP x.2) (neD x.2)
theorem pTree_trx {ch : Nat → Nat} {n R C : Nat} {Ts : List Nt} {t t' : Tok} {x : Nt} (hn : n ≤ 500) (hR : R ≤ 6) (hC : C ≤ 6) (hK : TkOK ch n t) (e : pTree ch n R C Ts t = .inr (x, t')) : NtOK x := by
  obtain ⟨_, _, _, _, a5, t0, t1, u0, k1⟩ := pTree_all hn hK e
  obtain ⟨_, _, v3⟩ := pN_ok hn 10 u0 k1
  exact ⟨a5, by omega, (pN_wf hn hR hC 10 u0 k1).trx (by omega)⟩
theorem pLs_ok {ch : Nat → Nat} {n : Nat} (hn : n ≤ 500) : ∀ (f : Nat) {w : Nat} {T T' : Tab} {Ts Ts' : List Nt} {t : Tok}, TkOK ch n t → TabOK T → TabX T → Ts.length ≤ 4 → (∀ x, x ∈ Ts → NtOK x) → pLs ch n f T w Ts t = .inr (T', Ts') → TabOK T' ∧ TabX T' ∧ Ts'.length ≤ 4 ∧ ∀ x, x ∈ Ts' → NtOK x
  | 0, w, T, T', Ts, Ts', t, _, h1, h2, h3, h4, e => by
    cases e
    exact ⟨h1, h2, h3, h4⟩
  | f + 1, w, T, T', Ts, Ts', t, hK, h1, h2, h3, h4, e => by
    by_cases a : t.1 = 0
    · rw [pLs_end a] at e
      cases e
      exact ⟨h1, h2, h3, h4⟩
    · by_cases b : t.1 = 1 ∧ twd ch t = wTree
      · cases hp : pTree ch n (tR T) (tC T) Ts t with
        | inl x => rw [pLs_t0 a b hp] at e; cases e
        | inr y =>
          obtain ⟨x, t1⟩ := y
          rw [pLs_t1 a b hp] at e
          obtain ⟨c1, _, c3, _⟩ := pTree_all hn hK hp
          refine pLs_ok hn f c1 h1 h2 (by rw [List.length_append]; show Ts.length + 1 ≤ 4; omega) (fun y hy => ?_) e
          rcases List.mem_append.mp hy with q | q
          · exact h4 y q
          · rw [List.mem_singleton.mp q]
            exact pTree_trx hn h1.1.2 h1.2.1.2 hK hp
      · cases hp : pCost ch n T w t with
        | inl x => rw [pLs_c0 a b hp] at e; cases e
        | inr y =>
          obtain ⟨T1, t1⟩ := y
          rw [pLs_c1 a b hp] at e
          obtain ⟨c1, _, _, x, z, x1, x9, z1, z9, eT⟩ := pCost_ok hn hK hp
          rw [eT] at e
          have o1 : TabOK (tR T, tC T, T.2.2.1, x, z) := ⟨h1.1, h1.2.1, h1.2.2.1, ⟨x1, x9⟩, ⟨z1, z9⟩⟩
          have o2 : TabX (tR T, tC T, T.2.2.1, x, z) := h2
          exact pLs_ok hn f c1 o1 o2 h3 h4 e
theorem RwOK.tab {T : Tab} {k : Nat} (h : RwOK T k) (k1 : 1 ≤ k) (k6 : k ≤ 6) : TabOK T ∧ TabX T := by
  obtain ⟨b1, b2, b3, b4, b5, b6, b7⟩ := h
  rw [← b1] at b5
  exact ⟨⟨⟨by omega, by omega⟩, ⟨b3 (by omega), b2⟩, b4, ⟨by omega, by omega⟩, ⟨by omega, by omega⟩⟩, b5⟩
theorem pAll_ok {ch : Nat → Nat} {n : Nat} {T : Tab} {Ts : List Nt} (hn : n ≤ 500) (e : pAll ch n = .inr (T, Ts)) : TabOK T ∧ TabX T ∧ Ts.length ≤ 4 ∧ ∀ x, x ∈ Ts → NtOK x := by
  have uk := (lxt_ok (ch := ch) (n := n) (p := 0) (by omega) hn).1
  unfold pAll at e
  cases hp : pRows ch n (lxt ch n 0) with
  | inl x => rw [hp] at e; cases e
  | inr y =>
    obtain ⟨T1, t1⟩ := y
    rw [hp] at e
    obtain ⟨o1, k, k1, k6, ro⟩ := pRows_ok hn uk hp
    obtain ⟨ok, ox⟩ := ro.tab k1 k6
    exact pLs_ok hn 500 o1 ok ox (Nat.zero_le _) (fun x hx => by cases hx) e
