/-! ===== a node of a text, the class ===== -/
theorem pN_no {ch : Nat → Nat} {n R C f d c q : Nat} {t : Tok} (h : ¬ isNd ch t) : pN ch n R C (f + 1) d c q t = .inl (flt 2 t) := by
  show (if _ then _ else _) = _
  rw [if_neg h]
theorem pN_full {ch : Nat → Nat} {n R C f d c q : Nat} {t : Tok} (h : isNd ch t) (k : 9 ≤ d ∨ 31 ≤ c) : pN ch n R C (f + 1) d c q t = .inl (flt 5 t) := by
  show (if _ then _ else _) = _
  rw [if_pos h, if_pos k]
theorem pN_lf0 {ch : Nat → Nat} {n R C f d c q : Nat} {t : Tok} (h : isNd ch t) (k : ¬ (9 ≤ d ∨ 31 ≤ c)) (l : twd ch t = wLeaf) {e : Nat × Nat} (hp : pNum ch 0 (lxt ch n t.2.2) = .inl e) : pN ch n R C (f + 1) d c q t = .inl e := by
  show (if _ then _ else _) = _
  rw [if_pos h, if_neg k, if_pos l, hp]
theorem pN_lf1 {ch : Nat → Nat} {n R C f d c q : Nat} {t : Tok} (h : isNd ch t) (k : ¬ (9 ≤ d ∨ 31 ≤ c)) (l : twd ch t = wLeaf) {v : Nat} (hp : pNum ch 0 (lxt ch n t.2.2) = .inr v) : pN ch n R C (f + 1) d c q t = .inr ([((0, v, -1), d, q)], lxt ch n (lxt ch n t.2.2).2.2) := by
  show (if _ then _ else _) = _
  rw [if_pos h, if_neg k, if_pos l, hp]
theorem pN_nd0 {ch : Nat → Nat} {n R C f d c q : Nat} {t : Tok} (h : isNd ch t) (k : ¬ (9 ≤ d ∨ 31 ≤ c)) (l : ¬ twd ch t = wLeaf) {e : Nat × Nat} (hp : pSet ch (if twd ch t = wdA then R else C) (lxt ch n t.2.2) = .inl e) : pN ch n R C (f + 1) d c q t = .inl e := by
  show (if _ then _ else _) = _
  rw [if_pos h, if_neg k, if_neg l, hp]
theorem pN_nd1 {ch : Nat → Nat} {n R C f d c q : Nat} {t : Tok} (h : isNd ch t) (k : ¬ (9 ≤ d ∨ 31 ≤ c)) (l : ¬ twd ch t = wLeaf) {s : Nat} (hp : pSet ch (if twd ch t = wdA then R else C) (lxt ch n t.2.2) = .inr s) {e : Nat × Nat} (h1 : pN ch n R C f (d + 1) (c + 1) c (lxt ch n (lxt ch n t.2.2).2.2) = .inl e) : pN ch n R C (f + 1) d c q t = .inl e := by
  show (if _ then _ else _) = _
  rw [if_pos h, if_neg k, if_neg l, hp]
  show (match pN ch n R C f (d + 1) (c + 1) c (lxt ch n (lxt ch n t.2.2).2.2) with | .inl e => _ | .inr (L1, t1) => _) = _
  rw [h1]
theorem pN_nd2 {ch : Nat → Nat} {n R C f d c q : Nat} {t : Tok} (h : isNd ch t) (k : ¬ (9 ≤ d ∨ 31 ≤ c)) (l : ¬ twd ch t = wLeaf) {s : Nat} (hp : pSet ch (if twd ch t = wdA then R else C) (lxt ch n t.2.2) = .inr s) {L1 : List Ne} {t1 : Tok} (h1 : pN ch n R C f (d + 1) (c + 1) c (lxt ch n (lxt ch n t.2.2).2.2) = .inr (L1, t1)) {e : Nat × Nat} (h2 : pN ch n R C f (d + 1) (c + 1 + L1.length) c t1 = .inl e) : pN ch n R C (f + 1) d c q t = .inl e := by
  show (if _ then _ else _) = _
  rw [if_pos h, if_neg k, if_neg l, hp]
  show (match pN ch n R C f (d + 1) (c + 1) c (lxt ch n (lxt ch n t.2.2).2.2) with | .inl e => _ | .inr (L1, t1) => _) = _
  rw [h1]
  show (match pN ch n R C f (d + 1) (c + 1 + L1.length) c t1 with | .inl e => _ | .inr (L2, t2) => _) = _
  rw [h2]
theorem pN_nd3 {ch : Nat → Nat} {n R C f d c q : Nat} {t : Tok} (h : isNd ch t) (k : ¬ (9 ≤ d ∨ 31 ≤ c)) (l : ¬ twd ch t = wLeaf) {s : Nat} (hp : pSet ch (if twd ch t = wdA then R else C) (lxt ch n t.2.2) = .inr s) {L1 : List Ne} {t1 : Tok} (h1 : pN ch n R C f (d + 1) (c + 1) c (lxt ch n (lxt ch n t.2.2).2.2) = .inr (L1, t1)) {L2 : List Ne} {t2 : Tok} (h2 : pN ch n R C f (d + 1) (c + 1 + L1.length) c t1 = .inr (L2, t2)) : pN ch n R C (f + 1) d c q t = .inr (((if twd ch t = wdA then 1 else 2, s, ((c + 1 + L1.length : Nat) : Int)), d, q) :: (L1 ++ L2), t2) := by
  show (if _ then _ else _) = _
  rw [if_pos h, if_neg k, if_neg l, hp]
  show (match pN ch n R C f (d + 1) (c + 1) c (lxt ch n (lxt ch n t.2.2).2.2) with | .inl e => _ | .inr (L1, t1) => _) = _
  rw [h1]
  show (match pN ch n R C f (d + 1) (c + 1 + L1.length) c t1 with | .inl e => _ | .inr (L2, t2) => _) = _
  rw [h2]
theorem pN_ok {ch : Nat → Nat} {n R C : Nat} (hn : n ≤ 500) : ∀ (f : Nat) {d c q : Nat} {t t' : Tok} {L : List Ne}, TkOK ch n t → pN ch n R C f d c q t = .inr (L, t') → TkOK ch n t' ∧ 1 ≤ L.length ∧ c + L.length ≤ 31
  | 0, _, _, _, _, _, _, _, e => by cases e
  | f + 1, d, c, q, t, t', L, hK, e => by
    have u1 := (lxt_ok (ch := ch) hK.2.2.1 hn).1
    have u2 := (lxt_ok (ch := ch) u1.2.2.1 hn).1
    by_cases a : isNd ch t
    · by_cases b : 9 ≤ d ∨ 31 ≤ c
      · rw [pN_full a b] at e; cases e
      · by_cases g : twd ch t = wLeaf
        · cases hp : pNum ch 0 (lxt ch n t.2.2) with
          | inl x => rw [pN_lf0 a b g hp] at e; cases e
          | inr v =>
            rw [pN_lf1 a b g hp] at e
            cases e
            refine ⟨u2, Nat.le_refl _, ?_⟩
            show c + 1 ≤ 31
            omega
        · cases hp : pSet ch (if twd ch t = wdA then R else C) (lxt ch n t.2.2) with
          | inl x => rw [pN_nd0 a b g hp] at e; cases e
          | inr s =>
            cases k1 : pN ch n R C f (d + 1) (c + 1) c (lxt ch n (lxt ch n t.2.2).2.2) with
            | inl x => rw [pN_nd1 a b g hp k1] at e; cases e
            | inr y =>
              obtain ⟨L1, t1⟩ := y
              obtain ⟨v1, v2, v3⟩ := pN_ok hn f u2 k1
              cases k2 : pN ch n R C f (d + 1) (c + 1 + L1.length) c t1 with
              | inl x => rw [pN_nd2 a b g hp k1 k2] at e; cases e
              | inr y =>
                obtain ⟨L2, t2⟩ := y
                obtain ⟨w1, w2, w3⟩ := pN_ok hn f v1 k2
                rw [pN_nd3 a b g hp k1 k2] at e
                cases e
                rw [List.length_cons, List.length_append]
                exact ⟨w1, by omega, by omega⟩
    · rw [pN_no a] at e; cases e
def NdF (P : Nat) (M N : pm_M) : Prop := Fr [2, P, P + 1, P + 2, P + 3] M N ∧ ∀ k, k ∉ [6, 7, 9, 10, 11, 12, 13] → pm_ct N 2 k = pm_ct M 2 k
theorem NdF.refl (P : Nat) (M : pm_M) : NdF P M M := ⟨Fr.refl _ _, fun _ _ => rfl⟩
theorem NdF.trans {P : Nat} {M N K : pm_M} (h : NdF P M N) (k : NdF P N K) : NdF P M K := ⟨h.1.trans k.1, fun j hj => (k.2 j hj).trans (h.2 j hj)⟩
theorem ReF.nd {P : Nat} {M N : pm_M} (h : ReF M N) : NdF P M N := ⟨h.1.mono (fun a q => by simp at q; simp [q]), h.2⟩
theorem NdF.c {P a : Nat} {M N : pm_M} (h : NdF P M N) (h8 : 8 ≤ P) (ha : a = 3 ∨ a = 4) : pm_ct N a = pm_ct M a := h.1.ct (by simp; omega)
theorem NdF.tc {P n : Nat} {ch : Nat → Nat} {M N : pm_M} (h : NdF P M N) (h8 : 8 ≤ P) (hM : TcX M n ch) : TcX N n ch := by
  unfold TcX at hM ⊢
  rw [h.2 4 (by decide), h.c h8 (Or.inl rfl)]; exact hM
def AdX (M N : pm_M) (P k x y : Nat) : Prop := Fr [P, P + 1, P + 2, P + 3] M N ∧ pm_ct N P 3 = ((k + 1 : Nat) : Int) ∧ pm_ct N (P + 1) = pm_upd (pm_ct M (P + 1)) k (x : Int) ∧ pm_ct N (P + 2) = pm_upd (pm_ct M (P + 2)) k (y : Int) ∧ pm_ct N (P + 3) = pm_upd (pm_ct M (P + 3)) k (-1)
theorem AdX.c {M N : pm_M} {P k x y a : Nat} (h : AdX M N P k x y) (h8 : 8 ≤ P) (ha : a ≤ 4) : pm_ct N a = pm_ct M a := h.1.ct (by simp; omega)
theorem AdX.nd {M N : pm_M} {P k x y : Nat} (h : AdX M N P k x y) (h8 : 8 ≤ P) : NdF P M N := ⟨h.1.mono (fun a q => List.mem_cons_of_mem _ q), fun j _ => by rw [h.c h8 (by omega)]⟩
theorem AdX.tk {M N : pm_M} {P k x y : Nat} {ch : Nat → Nat} {t : Tok} (h : AdX M N P k x y) (h8 : 8 ≤ P) (hT : TkX M ch t) : TkX N ch t := by
  unfold TkX at hT ⊢
  rw [h.c h8 (by omega)]; exact hT
/-- a stretch of nodes in the reader -/
def SgAt (M : pm_M) (P c : Nat) (L : List Nd) : Prop := ∀ (i : Nat) (x : Nd), L[i]? = some x → pm_ct M (P + 1) (c + i) = (x.1 : Int) ∧ pm_ct M (P + 2) (c + i) = (x.2.1 : Int) ∧ pm_ct M (P + 3) (c + i) = x.2.2
def Blw (M N : pm_M) (P c : Nat) : Prop := ∀ i, i < c → pm_ct N (P + 1) i = pm_ct M (P + 1) i ∧ pm_ct N (P + 2) i = pm_ct M (P + 2) i ∧ pm_ct N (P + 3) i = pm_ct M (P + 3) i
theorem AdX.blw {M N : pm_M} {P k x y : Nat} (h : AdX M N P k x y) : Blw M N P k := fun i hi => by
  obtain ⟨_, _, a, b, e⟩ := h
  rw [a, b, e, pm_upd_ne (by omega), pm_upd_ne (by omega), pm_upd_ne (by omega)]
  exact ⟨rfl, rfl, rfl⟩
theorem AdX.at {M N : pm_M} {P k x y : Nat} (h : AdX M N P k x y) : pm_ct N (P + 1) k = (x : Int) ∧ pm_ct N (P + 2) k = (y : Int) ∧ pm_ct N (P + 3) k = -1 := by
  obtain ⟨_, _, a, b, e⟩ := h
  rw [a, b, e, pm_upd_eq, pm_upd_eq, pm_upd_eq]
  exact ⟨rfl, rfl, rfl⟩
theorem Blw.trans {M N K : pm_M} {P c k : Nat} (h : Blw M N P c) (g : Blw N K P k) (ck : c ≤ k) : Blw M K P c := fun i hi => by
  obtain ⟨a1, a2, a3⟩ := h i hi
  obtain ⟨b1, b2, b3⟩ := g i (by omega)
  exact ⟨b1.trans a1, b2.trans a2, b3.trans a3⟩
theorem RdF.blw {M N : pm_M} {P c : Nat} (h : RdF M N) (h8 : 8 ≤ P) : Blw M N P c := fun i _ => by
  rw [h.1.ct (a := P + 1) (by simp <;> omega), h.1.ct (a := P + 2) (by simp <;> omega), h.1.ct (a := P + 3) (by simp <;> omega)]
  exact ⟨rfl, rfl, rfl⟩
theorem Blw.put {M N : pm_M} {P c : Nat} {z : Int} (u1 : pm_ct N (P + 1) = pm_ct M (P + 1)) (u2 : pm_ct N (P + 2) = pm_ct M (P + 2)) (u3 : pm_ct N (P + 3) = pm_upd (pm_ct M (P + 3)) c z) : Blw M N P c := fun i hi => by
  rw [u1, u2, u3, pm_upd_ne (by omega)]
  exact ⟨rfl, rfl, rfl⟩
theorem SgAt.join {K4 K5 K6 K7 : pm_M} {P c x s : Nat} {z : Int} {L1 L2 : List Nd} (a1 : pm_ct K4 (P + 1) c = (x : Int)) (a2 : pm_ct K4 (P + 2) c = (s : Int)) (b : Blw K4 K5 P (c + 1)) (s1 : SgAt K5 P (c + 1) L1) (u1 : pm_ct K6 (P + 1) = pm_ct K5 (P + 1)) (u2 : pm_ct K6 (P + 2) = pm_ct K5 (P + 2)) (u3 : pm_ct K6 (P + 3) = pm_upd (pm_ct K5 (P + 3)) c z) (b2 : Blw K6 K7 P (c + 1 + L1.length)) (s2 : SgAt K7 P (c + 1 + L1.length) L2) : SgAt K7 P c ((x, s, z) :: (L1 ++ L2)) := by
  intro i y hy
  cases i with
  | zero =>
    rw [List.getElem?_cons_zero] at hy
    cases hy
    obtain ⟨g1, g2, _⟩ := b c (by omega)
    obtain ⟨k1, k2, k3⟩ := b2 c (by omega)
    show pm_ct K7 (P + 1) c = (x : Int) ∧ pm_ct K7 (P + 2) c = (s : Int) ∧ pm_ct K7 (P + 3) c = z
    rw [k1, k2, k3, u1, u2, u3, pm_upd_eq, g1, g2, a1, a2]
    exact ⟨rfl, rfl, rfl⟩
  | succ i =>
    rw [List.getElem?_cons_succ] at hy
    by_cases l : i < L1.length
    · rw [List.getElem?_append_left l] at hy
      obtain ⟨g1, g2, g3⟩ := s1 i y hy
      obtain ⟨k1, k2, k3⟩ := b2 (c + 1 + i) (by omega)
      rw [show c + (i + 1) = c + 1 + i by omega, k1, k2, k3, u1, u2, u3, pm_upd_ne (by omega)]
      exact ⟨g1, g2, g3⟩
    · rw [List.getElem?_append_right (by omega)] at hy
      have g := s2 (i - L1.length) y hy
      rw [show c + 1 + L1.length + (i - L1.length) = c + (i + 1) by omega] at g
      exact g
theorem set_inl {ch : Nat → Nat} {many : Nat} {t : Tok} {M K : pm_M} {ρ : Option pm_V} {e : Nat × Nat} (hs : pSet ch many t = .inl e) (o : (∃ e, pSet ch many t = .inl e ∧ ρ = some (0, 0) ∧ FtX K e) ∨ ∃ s : Nat, pSet ch many t = .inr s ∧ 1 ≤ s ∧ s < 64 ∧ ρ = some (0, (s : Int)) ∧ K = M) : ρ = some (0, 0) ∧ FtX K e := by
  rcases o with ⟨e', he, a, b⟩ | ⟨s, he, _⟩
  · rw [hs] at he; cases he; exact ⟨a, b⟩
  · rw [hs] at he; cases he
theorem set_inr {ch : Nat → Nat} {many : Nat} {t : Tok} {M K : pm_M} {ρ : Option pm_V} {s : Nat} (hs : pSet ch many t = .inr s) (o : (∃ e, pSet ch many t = .inl e ∧ ρ = some (0, 0) ∧ FtX K e) ∨ ∃ s : Nat, pSet ch many t = .inr s ∧ 1 ≤ s ∧ s < 64 ∧ ρ = some (0, (s : Int)) ∧ K = M) : 1 ≤ s ∧ s < 64 ∧ ρ = some (0, (s : Int)) ∧ K = M := by
  rcases o with ⟨e', he, _⟩ | ⟨v, he, a⟩
  · rw [hs] at he; cases he
  · rw [hs] at he; cases he; exact a
theorem pNum_inr {ch : Nat → Nat} {l v : Nat} {t : Tok} (h : pNum ch l t = .inr v) : t.1 = 2 ∧ t.2.2 = t.2.1 + 1 ∧ 48 + l ≤ ch t.2.1 ∧ v = ch t.2.1 - 48 := by
  unfold pNum at h
  by_cases a : t.1 = 2
  · rw [if_pos a] at h
    by_cases b : t.2.2 = t.2.1 + 1 ∧ 48 + l ≤ ch t.2.1
    · rw [if_pos b] at h; cases h; exact ⟨a, b.1, b.2, rfl⟩
    · rw [if_neg b] at h; cases h
  · rw [if_neg a] at h; cases h
theorem c_Reader_sign0 {d mc ms : Nat} {M : pm_M} (lay : Lay M) {n : Nat} {ch : Nat → Nat} (hM : TcX M n ch) {t : Tok} (hT : TkX M ch t) (hK : TkOK ch n t) (h2 : t.1 = 2) {x : Nat} (hx : x = ch t.2.1) :
    pm_E d 69 [(2, ((2 : Nat) : Int)), (0, 0)] M mc ms (fun ρ M' => ρ = some (0, (x : Int)) ∧ M' = M) := by
  have := c_Reader_sign (d := d) (mc := mc) (ms := ms) lay hM hT hK h2 (i := 0) (hK.2.2.2.2.1 (by omega))
  rw [Nat.add_zero, ← hx] at this
  exact this
theorem Fr.nd3 {M N : pm_M} {P : Nat} (h : Fr [P + 3] M N) (h8 : 8 ≤ P) : NdF P M N := ⟨h.mono (fun a q => by simp at q; simp [q]), fun j _ => by rw [h.ct (by simp <;> omega)]⟩
theorem Fr.tk3 {M N : pm_M} {P : Nat} (h : Fr [P + 3] M N) (h8 : 8 ≤ P) {ch : Nat → Nat} {t : Tok} (hT : TkX M ch t) : TkX N ch t := by
  unfold TkX at hT ⊢
  rw [h.ct (by simp <;> omega)]; exact hT
theorem c_Nodes_addR0 {d mc ms : Nat} {M : pm_M} (lay : Lay M) {k x y : Nat} (hk : pm_ct M 8 3 = (k : Int)) (k31 : k < 31) :
    pm_E d 36 [(2, ((8 : Nat) : Int)), (0, (x : Int)), (0, (y : Int))] M mc ms (fun ρ M' => ρ = some (0, (k : Int)) ∧ Lay M' ∧ AdX M M' 8 k x y) := by
  show Wp d 36 0 [(2, ((8 : Nat) : Int)), (0, (x : Int)), (0, (y : Int))] [] M mc ms _
  refine g_aload_n lk_36_0 rfl ?_
  refine m_getfield (u := []) (M := M) lk_36_1 rfl (lay.on (by decide) rfl) (v := (k : Int)) hk ?_
  refine g_aload_n lk_36_4 rfl ?_
  refine g_getfield lk_36_5 rfl (lay.on (by decide) rfl) (v := ((9 : Nat) : Int)) (lay.rf rfl) ?_
  refine g_arraylength (n := 31) lk_36_8 (by decide) (lay.ay (by decide) rfl) ?_
  refine g_icmp (t := 14) lk_36_9 rfl (by first | (unfold pm_inI; omega) | exact pm_and_in _ _ | exact pm_shr_in _ _ | exact pm_or_in _ _ | exact pm_xor_in _ _ | exact pm_shl_in _ _ | exact pm_cmp_in _ _ | exact pm_b8_in _ | (unfold pm_inI; split <;> omega)) (by first | (unfold pm_inI; omega) | exact pm_and_in _ _ | exact pm_shr_in _ _ | exact pm_or_in _ _ | exact pm_xor_in _ _ | exact pm_shl_in _ _ | exact pm_cmp_in _ _ | exact pm_b8_in _ | (unfold pm_inI; split <;> omega)) (fun h1 => ?_) (fun h1 => ?_)
  · replace h1 : (k : Int) < 31 := h1
    refine g_aload_n lk_36_14 rfl ?_
    refine g_getfield lk_36_15 rfl (lay.on (by decide) rfl) (v := ((9 : Nat) : Int)) (lay.rf rfl) ?_
    refine g_aload_n lk_36_18 rfl ?_
    refine m_getfield (u := []) (M := M) lk_36_19 rfl (lay.on (by decide) rfl) (v := (k : Int)) hk ?_
    refine g_iload_n lk_36_22 rfl ?_
    have lay2 : Lay (Mu [(9, pm_upd (pm_ct M 9) k (x : Int))] M) := lay.muA (l := []) (a := 9) (f := pm_upd (pm_ct M 9) k (x : Int)) rfl rfl
    refine m_iastore (u := []) (u' := [(9, pm_upd (pm_ct M 9) k (x : Int))]) (M := M) lk_36_23 (lay.ay (by decide) rfl) (by omega) (j := k) (by omega) rfl ?_
    refine g_aload_n lk_36_24 rfl ?_
    refine g_getfield lk_36_25 rfl (lay2.on (by decide) rfl) (v := ((10 : Nat) : Int)) (lay2.rf rfl) ?_
    refine g_aload_n lk_36_28 rfl ?_
    refine m_getfield (u := [(9, pm_upd (pm_ct M 9) k (x : Int))]) (M := M) lk_36_29 rfl (lay2.on (by decide) rfl) (v := (k : Int)) hk ?_
    refine g_iload_n lk_36_32 rfl ?_
    have lay3 : Lay (Mu [(9, pm_upd (pm_ct M 9) k (x : Int)), (10, pm_upd (pm_ct M 10) k (y : Int))] M) := lay2.muA (l := [(9, pm_upd (pm_ct M 9) k (x : Int))]) (a := 10) (f := pm_upd (pm_ct M 10) k (y : Int)) rfl rfl
    refine m_iastore (u := [(9, pm_upd (pm_ct M 9) k (x : Int))]) (u' := [(9, pm_upd (pm_ct M 9) k (x : Int)), (10, pm_upd (pm_ct M 10) k (y : Int))]) (M := M) lk_36_33 (lay2.ay (by decide) rfl) (by omega) (j := k) (by omega) rfl ?_
    refine g_aload_n lk_36_34 rfl ?_
    refine g_getfield lk_36_35 rfl (lay3.on (by decide) rfl) (v := ((11 : Nat) : Int)) (lay3.rf rfl) ?_
    refine g_aload_n lk_36_38 rfl ?_
    refine m_getfield (u := [(9, pm_upd (pm_ct M 9) k (x : Int)), (10, pm_upd (pm_ct M 10) k (y : Int))]) (M := M) lk_36_39 rfl (lay3.on (by decide) rfl) (v := (k : Int)) hk ?_
    refine g_iconst lk_36_42 ?_
    have lay4 : Lay (Mu [(9, pm_upd (pm_ct M 9) k (x : Int)), (10, pm_upd (pm_ct M 10) k (y : Int)), (11, pm_upd (pm_ct M 11) k (-1))] M) := lay3.muA (l := [(9, pm_upd (pm_ct M 9) k (x : Int)), (10, pm_upd (pm_ct M 10) k (y : Int))]) (a := 11) (f := pm_upd (pm_ct M 11) k (-1)) rfl rfl
    refine m_iastore (u := [(9, pm_upd (pm_ct M 9) k (x : Int)), (10, pm_upd (pm_ct M 10) k (y : Int))]) (u' := [(9, pm_upd (pm_ct M 9) k (x : Int)), (10, pm_upd (pm_ct M 10) k (y : Int)), (11, pm_upd (pm_ct M 11) k (-1))]) (M := M) lk_36_43 (lay3.ay (by decide) rfl) (by omega) (j := k) (by omega) rfl ?_
    refine g_aload_n lk_36_44 rfl ?_
    refine g_dup lk_36_45 rfl ?_
    refine m_getfield (u := [(9, pm_upd (pm_ct M 9) k (x : Int)), (10, pm_upd (pm_ct M 10) k (y : Int)), (11, pm_upd (pm_ct M 11) k (-1))]) (M := M) lk_36_46 rfl (lay4.on (by decide) rfl) (v := (k : Int)) hk ?_
    refine g_iconst lk_36_49 ?_
    refine g_iadd lk_36_50 ?_
    have lay5 : Lay (Mu [(9, pm_upd (pm_ct M 9) k (x : Int)), (10, pm_upd (pm_ct M 10) k (y : Int)), (11, pm_upd (pm_ct M 11) k (-1)), (8, pm_upd (pm_ct M 8) 3 ((k : Int) + 1))] M) := lay4.muF (l := [(9, pm_upd (pm_ct M 9) k (x : Int)), (10, pm_upd (pm_ct M 10) k (y : Int)), (11, pm_upd (pm_ct M 11) k (-1))]) (a := 8) (k := 3) (z := ((k : Int) + 1)) rfl rfl
    refine m_putfield (u := [(9, pm_upd (pm_ct M 9) k (x : Int)), (10, pm_upd (pm_ct M 10) k (y : Int)), (11, pm_upd (pm_ct M 11) k (-1))]) (u' := [(9, pm_upd (pm_ct M 9) k (x : Int)), (10, pm_upd (pm_ct M 10) k (y : Int)), (11, pm_upd (pm_ct M 11) k (-1)), (8, pm_upd (pm_ct M 8) 3 ((k : Int) + 1))]) (M := M) lk_36_51 rfl (lay4.on (by decide) rfl) (fun h => absurd h (by decide)) rfl ?_
    refine g_aload_n lk_36_54 rfl ?_
    refine m_getfield (u := [(9, pm_upd (pm_ct M 9) k (x : Int)), (10, pm_upd (pm_ct M 10) k (y : Int)), (11, pm_upd (pm_ct M 11) k (-1)), (8, pm_upd (pm_ct M 8) 3 ((k : Int) + 1))]) (M := M) lk_36_55 rfl (lay5.on (by decide) rfl) (v := ((k : Int) + 1)) rfl ?_
    refine g_iconst lk_36_58 ?_
    refine g_isub lk_36_59 ?_
    refine g_ireturn lk_36_60 (fun h => absurd h (by decide)) ?_
    refine ⟨?_, lay5, Fr.mu _ _ rfl, by rw [Mu_ct]; rfl, by rw [Mu_ct]; rfl, by rw [Mu_ct]; rfl, by rw [Mu_ct]; rfl⟩
    congr 2
    omega
  · replace h1 : ¬ ((k : Int) < 31) := h1
    refine g_iconst lk_36_12 ?_
    refine g_ireturn lk_36_13 (fun h => absurd h (by decide)) ?_
    omega
theorem c_Reader_readLeaf0 {d mc ms : Nat} {M : pm_M} (lay : Lay M) {n : Nat} {ch : Nat → Nat} (hM : TcX M n ch) {t : Tok} (hT : TkX M ch t) (hK : TkOK ch n t) {c : Nat} (hc : pm_ct M 8 3 = (c : Int)) (c31 : c < 31) :
    pm_E (d + 2) 64 [(2, ((2 : Nat) : Int)), (2, ((8 : Nat) : Int))] M mc ms (fun ρ M' => Lay M' ∧ NdF 8 M M' ∧ ResX ρ M' (fun v => TkX M' ch (lxt ch n (lxt ch n t.2.2).2.2) ∧ pm_ct M' 8 3 = ((c + 1 : Nat) : Int) ∧ SgAt M' 8 c [(0, v, -1)] ∧ Blw M M' 8 c ∧ Sv M M') (pNum ch 0 (lxt ch n t.2.2))) := by
  have n5 := hM.1
  have ad := c_Reader_advance (d := d) (mc := 0) (ms := 0) lay hM hT.2.2.2.1 hK.2.2.1
  have uk := (lxt_ok (ch := ch) hK.2.2.1 n5).1
  obtain ⟨u, hu⟩ : ∃ u, u = lxt ch n t.2.2 := ⟨_, rfl⟩
  rw [← hu] at uk ad ⊢
  show Wp (d + 2) 64 0 [(2, ((2 : Nat) : Int)), (2, ((8 : Nat) : Int))] [] M mc ms _
  cases hp : pNum ch 0 u with
  | inl e =>
    refine g_aload_n lk_64_0 rfl ?_
    refine g_virtual (p := 2) (Qc := _) lk_64_1 rfl (Nat.le_of_ble_eq_true rfl) rfl rfl (lay.on (by decide) rfl) (Nat.le_of_ble_eq_true rfl) (Nat.le_of_ble_eq_true rfl) (Nat.zero_le _) (Nat.zero_le _) (ad) ?_
    rintro _ K1 ⟨rfl, lay1, rd1, tk1⟩
    have inf := c_Reader_isNumberFrom (d := d) (mc := 0) (ms := 0) lay1 (hM.rd rd1) tk1 uk (l := 0) (by omega)
    rw [hp] at inf
    show Wp _ 64 4 [(2, ((2 : Nat) : Int)), (2, ((8 : Nat) : Int))] [] K1 _ _ _
    refine g_aload_n lk_64_4 rfl ?_
    refine g_iconst lk_64_5 ?_
    refine g_virtual (p := 2) (Qc := _) lk_64_6 rfl (Nat.le_of_ble_eq_true rfl) rfl rfl (lay1.on (by decide) rfl) (Nat.le_of_ble_eq_true rfl) (Nat.le_of_ble_eq_true rfl) (Nat.zero_le _) (Nat.zero_le _) (inf) ?_
    rintro _ K2 ⟨lay2, re2, rfl, ft2⟩
    show Wp _ 64 9 [(2, ((2 : Nat) : Int)), (2, ((8 : Nat) : Int))] [(0, 0)] K2 _ _ _
    refine g_if (t := 14) lk_64_9 rfl (by first | (unfold pm_inI; omega) | exact pm_and_in _ _ | exact pm_shr_in _ _ | exact pm_or_in _ _ | exact pm_xor_in _ _ | exact pm_shl_in _ _ | exact pm_cmp_in _ _ | exact pm_b8_in _ | (unfold pm_inI; split <;> omega)) (fun h => absurd h (show ¬ (¬ (0 : Int) = (0 : Int)) by omega)) (fun _ => ?_)
    refine g_iconst lk_64_12 ?_
    refine g_ireturn lk_64_13 (fun _ => by omega) ?_
    exact ⟨lay2, rd1.re.nd.trans re2.nd, rfl, ft2⟩
  | inr v =>
    obtain ⟨p1, p2, p3, p4⟩ := pNum_inr hp
    have ev : (ch u.2.1 : Int) - 48 = (v : Int) := by omega
    obtain ⟨x, hx⟩ : ∃ x, x = ch u.2.1 := ⟨_, rfl⟩
    rw [← hx] at ev
    have v9 : v ≤ 9 := by
      have := run_ch uk p1 (i := u.2.1) (by omega) (by omega)
      omega
    refine g_aload_n lk_64_0 rfl ?_
    refine g_virtual (p := 2) (Qc := _) lk_64_1 rfl (Nat.le_of_ble_eq_true rfl) rfl rfl (lay.on (by decide) rfl) (Nat.le_of_ble_eq_true rfl) (Nat.le_of_ble_eq_true rfl) (Nat.zero_le _) (Nat.zero_le _) (ad) ?_
    rintro _ K1 ⟨rfl, lay1, rd1, tk1⟩
    have inf := c_Reader_isNumberFrom (d := d) (mc := 0) (ms := 0) lay1 (hM.rd rd1) tk1 uk (l := 0) (by omega)
    rw [hp] at inf
    have sg := c_Reader_sign0 (d := d + 1) (mc := 0) (ms := 0) lay1 (hM.rd rd1) tk1 uk p1 hx
    have hc1 : pm_ct K1 8 3 = (c : Int) := (by rw [rd1.1.ct (by decide)]; exact hc)
    show Wp _ 64 4 [(2, ((2 : Nat) : Int)), (2, ((8 : Nat) : Int))] [] K1 _ _ _
    refine g_aload_n lk_64_4 rfl ?_
    refine g_iconst lk_64_5 ?_
    refine g_virtual (p := 2) (Qc := _) lk_64_6 rfl (Nat.le_of_ble_eq_true rfl) rfl rfl (lay1.on (by decide) rfl) (Nat.le_of_ble_eq_true rfl) (Nat.le_of_ble_eq_true rfl) (Nat.zero_le _) (Nat.zero_le _) (inf) ?_
    rintro _ K2 ⟨lay2, re2, rfl, eK⟩
    rw [eK]
    show Wp _ 64 9 [(2, ((2 : Nat) : Int)), (2, ((8 : Nat) : Int))] [(0, 1)] K1 _ _ _
    refine g_if (t := 14) lk_64_9 rfl (by first | (unfold pm_inI; omega) | exact pm_and_in _ _ | exact pm_shr_in _ _ | exact pm_or_in _ _ | exact pm_xor_in _ _ | exact pm_shl_in _ _ | exact pm_cmp_in _ _ | exact pm_b8_in _ | (unfold pm_inI; split <;> omega)) (fun _ => ?_) (fun h => absurd (show ¬ (1 : Int) = (0 : Int) by omega) h)
    refine g_aload_n lk_64_14 rfl ?_
    refine g_iconst lk_64_15 ?_
    refine g_aload_n lk_64_16 rfl ?_
    refine g_iconst lk_64_17 ?_
    refine g_virtual (p := 2) (Qc := _) lk_64_18 rfl (Nat.le_of_ble_eq_true rfl) rfl rfl (lay1.on (by decide) rfl) (Nat.le_of_ble_eq_true rfl) (Nat.le_of_ble_eq_true rfl) (Nat.zero_le _) (Nat.zero_le _) (sg) ?_
    rintro _ N1 ⟨rfl, hN1⟩
    rw [hN1]
    show Wp _ 64 21 [(2, ((2 : Nat) : Int)), (2, ((8 : Nat) : Int))] [(0, (x : Int)), (0, 0), (2, ((8 : Nat) : Int))] K1 _ _ _
    refine g_bipush lk_64_21 ?_
    refine g_isub lk_64_23 ?_
    refine g_top (z := ((x : Int) - 48)) (z' := (v : Int)) (ev) ?_
    refine g_virtual (p := 8) (Qc := _) lk_64_24 rfl (Nat.le_of_ble_eq_true rfl) rfl rfl (lay1.on (by decide) rfl) (Nat.le_of_ble_eq_true rfl) (Nat.le_of_ble_eq_true rfl) (Nat.zero_le _) (Nat.zero_le _) (c_Nodes_addR0 (d := d + 1) (mc := 0) (ms := 0) (x := 0) lay1 hc1 c31) ?_
    rintro _ K3 ⟨rfl, lay3, ax⟩
    have ad3 := c_Reader_advance (d := d) (mc := 0) (ms := 0) lay3 ((ax.nd (by omega)).tc (by omega) (hM.rd rd1)) (ax.tk (by omega) tk1).2.2.2.1 uk.2.2.1
    show Wp _ 64 27 [(2, ((2 : Nat) : Int)), (2, ((8 : Nat) : Int))] [(0, (c : Int))] K3 _ _ _
    refine g_pop lk_64_27 rfl ?_
    refine g_aload_n lk_64_28 rfl ?_
    refine g_virtual (p := 2) (Qc := _) lk_64_29 rfl (Nat.le_of_ble_eq_true rfl) rfl rfl (lay3.on (by decide) rfl) (Nat.le_of_ble_eq_true rfl) (Nat.le_of_ble_eq_true rfl) (Nat.zero_le _) (Nat.zero_le _) (ad3) ?_
    rintro _ K4 ⟨rfl, lay4, rd4, tk4⟩
    show Wp _ 64 32 [(2, ((2 : Nat) : Int)), (2, ((8 : Nat) : Int))] [] K4 _ _ _
    refine g_iconst lk_64_32 ?_
    refine g_ireturn lk_64_33 (fun _ => by omega) ?_
    obtain ⟨a1, a2, a3⟩ := ax.at
    have b4 : Blw K3 K4 8 (c + 1) := rd4.blw (by omega)
    obtain ⟨q1, q2, q3⟩ := b4 c (by omega)
    exact ⟨lay4, (rd1.re.nd.trans (ax.nd (by omega))).trans rd4.re.nd, rfl, tk4, by rw [rd4.1.ct (by decide)]; exact ax.2.1, (fun i y hy => by
      cases i with
      | zero =>
        rw [List.getElem?_cons_zero] at hy
        cases hy
        exact ⟨q1.trans a1, q2.trans a2, q3.trans a3⟩
      | succ i => cases hy), ((rd1.blw (by omega)).trans ax.blw (Nat.le_refl _)).trans b4 (by omega), (rd1.sv.trans (ax.1.sv (by decide))).trans rd4.sv⟩
set_option maxHeartbeats 8000000 in
theorem c_Reader_readNode0 {n R C : Nat} {ch : Nat → Nat} (r6 : R ≤ 6) (c6 : C ≤ 6) : ∀ (f D mc ms : Nat) (M : pm_M) (dd c q : Nat) (t : Tok), f + 2 ≤ D → dd + f = 10 → dd ≤ 9 → Lay M → TcX M n ch → TkX M ch t → TkOK ch n t → pm_ct M 4 1 = (R : Int) → pm_ct M 4 2 = (C : Int) → pm_ct M 8 3 = (c : Int) → c ≤ 31 →
    pm_E D 63 [(2, ((2 : Nat) : Int)), (2, ((8 : Nat) : Int)), (0, (dd : Int))] M mc ms (fun ρ M' => Lay M' ∧ NdF 8 M M' ∧ ResX ρ M' (fun x => TkX M' ch x.2 ∧ pm_ct M' 8 3 = ((c + x.1.length : Nat) : Int) ∧ SgAt M' 8 c (x.1.map (fun y => y.1)) ∧ Blw M M' 8 c ∧ Sv M M') (pN ch n R C f dd c q t)) := by
  intro f
  induction f with
  | zero =>
    intro D mc ms M dd c q t _ g1 g2
    exfalso
    omega
  | succ f ih =>
    intro D mc ms M dd c q t g1 g2 g3 lay hM hT hK hR hC hc c31
    obtain ⟨d, rfl⟩ : ∃ d, D = d + 3 := ⟨D - 3, by omega⟩
    have n5 := hM.1
    have t4 := hK.1
    have f10 := hT.1
    have f13 := hT.2.2.2.2
    show Wp (d + 3) 63 0 [(2, ((2 : Nat) : Int)), (2, ((8 : Nat) : Int)), (0, (dd : Int)), (9, 0), (9, 0), (9, 0)] [] M mc ms _
    have rf2 := c_Reader_refuse (d := d + 2) (mc := 0) (ms := 0) lay hT hK.1 (w := 2)
    have rf5 := c_Reader_refuse (d := d + 2) (mc := 0) (ms := 0) lay hT hK.1 (w := 5)
    by_cases a : isNd ch t
    · have f10' : pm_ct M 2 10 = 1 := by rw [f10, a.1]; rfl
      have lt := hK.lt a.1
      obtain ⟨w1, w2, w3, w4, w5⟩ := w27_con lt
      have f13' : pm_ct M 2 13 = ((nr 27 (twd ch t) : Nat) : Int) := f13 a.1
      by_cases b : 9 ≤ dd ∨ 31 ≤ c
      · rw [pN_full a b]
        obtain ⟨w, hw⟩ : ∃ w, w = nr 27 (twd ch t) := ⟨_, rfl⟩
        have w3' : w = 239874 ∨ w = 1 ∨ w = 2 := by
          rw [hw]
          rcases a.2 with e | e | e
          · have := w5.mpr e; omega
          · have := w1.mpr e; omega
          · have := w2.mpr e; omega
        rw [← hw] at f13'
        clear ih w1 w2 w3 w4 w5 a
        refine g_aload_n lk_63_0 rfl ?_
        refine m_getfield (u := []) (M := M) lk_63_1 rfl (lay.on (by decide) rfl) (v := 1) f10' ?_
        refine g_iconst lk_63_4 ?_
        refine g_icmp (t := 33) lk_63_5 rfl (by first | (unfold pm_inI; omega) | exact pm_and_in _ _ | exact pm_shr_in _ _ | exact pm_or_in _ _ | exact pm_xor_in _ _ | exact pm_shl_in _ _ | exact pm_cmp_in _ _ | exact pm_b8_in _ | (unfold pm_inI; split <;> omega)) (by first | (unfold pm_inI; omega) | exact pm_and_in _ _ | exact pm_shr_in _ _ | exact pm_or_in _ _ | exact pm_xor_in _ _ | exact pm_shl_in _ _ | exact pm_cmp_in _ _ | exact pm_b8_in _ | (unfold pm_inI; split <;> omega)) (fun h => absurd h (show ¬ (¬ (1 : Int) = (1 : Int)) by omega)) (fun _ => ?_)
        refine g_aload_n lk_63_8 rfl ?_
        refine m_getfield (u := []) (M := M) lk_63_9 rfl (lay.on (by decide) rfl) (v := (w : Int)) f13' ?_
        refine g_ldc lk_63_12 ?_
        refine g_icmp (t := 39) lk_63_14 rfl (by first | (unfold pm_inI; omega) | exact pm_and_in _ _ | exact pm_shr_in _ _ | exact pm_or_in _ _ | exact pm_xor_in _ _ | exact pm_shl_in _ _ | exact pm_cmp_in _ _ | exact pm_b8_in _ | (unfold pm_inI; split <;> omega)) (by first | (unfold pm_inI; omega) | exact pm_and_in _ _ | exact pm_shr_in _ _ | exact pm_or_in _ _ | exact pm_xor_in _ _ | exact pm_shl_in _ _ | exact pm_cmp_in _ _ | exact pm_b8_in _ | (unfold pm_inI; split <;> omega)) (fun h1 => ?_) (fun h1 => ?_)
        · replace h1 : (w : Int) = 239874 := h1
          refine g_iload_n lk_63_39 rfl ?_
          refine g_bipush lk_63_40 ?_
          refine g_icmp (t := 54) lk_63_42 rfl (by first | (unfold pm_inI; omega) | exact pm_and_in _ _ | exact pm_shr_in _ _ | exact pm_or_in _ _ | exact pm_xor_in _ _ | exact pm_shl_in _ _ | exact pm_cmp_in _ _ | exact pm_b8_in _ | (unfold pm_inI; split <;> omega)) (by first | (unfold pm_inI; omega) | exact pm_and_in _ _ | exact pm_shr_in _ _ | exact pm_or_in _ _ | exact pm_xor_in _ _ | exact pm_shl_in _ _ | exact pm_cmp_in _ _ | exact pm_b8_in _ | (unfold pm_inI; split <;> omega)) (fun h2 => ?_) (fun h2 => ?_)
          · replace h2 : 9 ≤ (dd : Int) := h2
            refine g_aload_n lk_63_54 rfl ?_
            refine g_iconst lk_63_55 ?_
            refine g_virtual (p := 2) (Qc := _) lk_63_56 rfl (Nat.le_of_ble_eq_true rfl) rfl rfl (lay.on (by decide) rfl) (Nat.le_of_ble_eq_true rfl) (Nat.le_of_ble_eq_true rfl) (Nat.zero_le _) (Nat.zero_le _) (rf5) ?_
            rintro _ K1 ⟨rfl, lay1, re1, ft1⟩
            show Wp _ 63 59 [(2, ((2 : Nat) : Int)), (2, ((8 : Nat) : Int)), (0, (dd : Int)), (9, 0), (9, 0), (9, 0)] [(0, 0)] K1 _ _ _
            refine g_ireturn lk_63_59 (fun _ => by omega) ?_
            exact ⟨lay1, re1.nd, rfl, ft1⟩
          · replace h2 : ¬ (9 ≤ (dd : Int)) := h2
            refine g_aload_n lk_63_45 rfl ?_
            refine m_getfield (u := []) (M := M) lk_63_46 rfl (lay.on (by decide) rfl) (v := (c : Int)) hc ?_
            refine g_bipush lk_63_49 ?_
            refine g_icmp (t := 60) lk_63_51 rfl (by first | (unfold pm_inI; omega) | exact pm_and_in _ _ | exact pm_shr_in _ _ | exact pm_or_in _ _ | exact pm_xor_in _ _ | exact pm_shl_in _ _ | exact pm_cmp_in _ _ | exact pm_b8_in _ | (unfold pm_inI; split <;> omega)) (by first | (unfold pm_inI; omega) | exact pm_and_in _ _ | exact pm_shr_in _ _ | exact pm_or_in _ _ | exact pm_xor_in _ _ | exact pm_shl_in _ _ | exact pm_cmp_in _ _ | exact pm_b8_in _ | (unfold pm_inI; split <;> omega)) (fun h3 => ?_) (fun h3 => ?_)
            · replace h3 : (c : Int) < 31 := h3
              omega
            · replace h3 : ¬ ((c : Int) < 31) := h3
              refine g_aload_n lk_63_54 rfl ?_
              refine g_iconst lk_63_55 ?_
              refine g_virtual (p := 2) (Qc := _) lk_63_56 rfl (Nat.le_of_ble_eq_true rfl) rfl rfl (lay.on (by decide) rfl) (Nat.le_of_ble_eq_true rfl) (Nat.le_of_ble_eq_true rfl) (Nat.zero_le _) (Nat.zero_le _) (rf5) ?_
              rintro _ K1 ⟨rfl, lay1, re1, ft1⟩
              show Wp _ 63 59 [(2, ((2 : Nat) : Int)), (2, ((8 : Nat) : Int)), (0, (dd : Int)), (9, 0), (9, 0), (9, 0)] [(0, 0)] K1 _ _ _
              refine g_ireturn lk_63_59 (fun _ => by omega) ?_
              exact ⟨lay1, re1.nd, rfl, ft1⟩
        · replace h1 : ¬ ((w : Int) = 239874) := h1
          refine g_aload_n lk_63_17 rfl ?_
          refine m_getfield (u := []) (M := M) lk_63_18 rfl (lay.on (by decide) rfl) (v := (w : Int)) f13' ?_
          refine g_iconst lk_63_21 ?_
          refine g_icmp (t := 39) lk_63_22 rfl (by first | (unfold pm_inI; omega) | exact pm_and_in _ _ | exact pm_shr_in _ _ | exact pm_or_in _ _ | exact pm_xor_in _ _ | exact pm_shl_in _ _ | exact pm_cmp_in _ _ | exact pm_b8_in _ | (unfold pm_inI; split <;> omega)) (by first | (unfold pm_inI; omega) | exact pm_and_in _ _ | exact pm_shr_in _ _ | exact pm_or_in _ _ | exact pm_xor_in _ _ | exact pm_shl_in _ _ | exact pm_cmp_in _ _ | exact pm_b8_in _ | (unfold pm_inI; split <;> omega)) (fun h4 => ?_) (fun h4 => ?_)
          · replace h4 : (w : Int) = 1 := h4
            refine g_iload_n lk_63_39 rfl ?_
            refine g_bipush lk_63_40 ?_
            refine g_icmp (t := 54) lk_63_42 rfl (by first | (unfold pm_inI; omega) | exact pm_and_in _ _ | exact pm_shr_in _ _ | exact pm_or_in _ _ | exact pm_xor_in _ _ | exact pm_shl_in _ _ | exact pm_cmp_in _ _ | exact pm_b8_in _ | (unfold pm_inI; split <;> omega)) (by first | (unfold pm_inI; omega) | exact pm_and_in _ _ | exact pm_shr_in _ _ | exact pm_or_in _ _ | exact pm_xor_in _ _ | exact pm_shl_in _ _ | exact pm_cmp_in _ _ | exact pm_b8_in _ | (unfold pm_inI; split <;> omega)) (fun h5 => ?_) (fun h5 => ?_)
            · replace h5 : 9 ≤ (dd : Int) := h5
              refine g_aload_n lk_63_54 rfl ?_
              refine g_iconst lk_63_55 ?_
              refine g_virtual (p := 2) (Qc := _) lk_63_56 rfl (Nat.le_of_ble_eq_true rfl) rfl rfl (lay.on (by decide) rfl) (Nat.le_of_ble_eq_true rfl) (Nat.le_of_ble_eq_true rfl) (Nat.zero_le _) (Nat.zero_le _) (rf5) ?_
              rintro _ K1 ⟨rfl, lay1, re1, ft1⟩
              show Wp _ 63 59 [(2, ((2 : Nat) : Int)), (2, ((8 : Nat) : Int)), (0, (dd : Int)), (9, 0), (9, 0), (9, 0)] [(0, 0)] K1 _ _ _
              refine g_ireturn lk_63_59 (fun _ => by omega) ?_
              exact ⟨lay1, re1.nd, rfl, ft1⟩
            · replace h5 : ¬ (9 ≤ (dd : Int)) := h5
              refine g_aload_n lk_63_45 rfl ?_
              refine m_getfield (u := []) (M := M) lk_63_46 rfl (lay.on (by decide) rfl) (v := (c : Int)) hc ?_
              refine g_bipush lk_63_49 ?_
              refine g_icmp (t := 60) lk_63_51 rfl (by first | (unfold pm_inI; omega) | exact pm_and_in _ _ | exact pm_shr_in _ _ | exact pm_or_in _ _ | exact pm_xor_in _ _ | exact pm_shl_in _ _ | exact pm_cmp_in _ _ | exact pm_b8_in _ | (unfold pm_inI; split <;> omega)) (by first | (unfold pm_inI; omega) | exact pm_and_in _ _ | exact pm_shr_in _ _ | exact pm_or_in _ _ | exact pm_xor_in _ _ | exact pm_shl_in _ _ | exact pm_cmp_in _ _ | exact pm_b8_in _ | (unfold pm_inI; split <;> omega)) (fun h6 => ?_) (fun h6 => ?_)
              · replace h6 : (c : Int) < 31 := h6
                omega
              · replace h6 : ¬ ((c : Int) < 31) := h6
                refine g_aload_n lk_63_54 rfl ?_
                refine g_iconst lk_63_55 ?_
                refine g_virtual (p := 2) (Qc := _) lk_63_56 rfl (Nat.le_of_ble_eq_true rfl) rfl rfl (lay.on (by decide) rfl) (Nat.le_of_ble_eq_true rfl) (Nat.le_of_ble_eq_true rfl) (Nat.zero_le _) (Nat.zero_le _) (rf5) ?_
                rintro _ K1 ⟨rfl, lay1, re1, ft1⟩
                show Wp _ 63 59 [(2, ((2 : Nat) : Int)), (2, ((8 : Nat) : Int)), (0, (dd : Int)), (9, 0), (9, 0), (9, 0)] [(0, 0)] K1 _ _ _
                refine g_ireturn lk_63_59 (fun _ => by omega) ?_
                exact ⟨lay1, re1.nd, rfl, ft1⟩
          · replace h4 : ¬ ((w : Int) = 1) := h4
            refine g_aload_n lk_63_25 rfl ?_
            refine m_getfield (u := []) (M := M) lk_63_26 rfl (lay.on (by decide) rfl) (v := (w : Int)) f13' ?_
            refine g_iconst lk_63_29 ?_
            refine g_icmp (t := 39) lk_63_30 rfl (by first | (unfold pm_inI; omega) | exact pm_and_in _ _ | exact pm_shr_in _ _ | exact pm_or_in _ _ | exact pm_xor_in _ _ | exact pm_shl_in _ _ | exact pm_cmp_in _ _ | exact pm_b8_in _ | (unfold pm_inI; split <;> omega)) (by first | (unfold pm_inI; omega) | exact pm_and_in _ _ | exact pm_shr_in _ _ | exact pm_or_in _ _ | exact pm_xor_in _ _ | exact pm_shl_in _ _ | exact pm_cmp_in _ _ | exact pm_b8_in _ | (unfold pm_inI; split <;> omega)) (fun h7 => ?_) (fun h7 => ?_)
            · replace h7 : (w : Int) = 2 := h7
              refine g_iload_n lk_63_39 rfl ?_
              refine g_bipush lk_63_40 ?_
              refine g_icmp (t := 54) lk_63_42 rfl (by first | (unfold pm_inI; omega) | exact pm_and_in _ _ | exact pm_shr_in _ _ | exact pm_or_in _ _ | exact pm_xor_in _ _ | exact pm_shl_in _ _ | exact pm_cmp_in _ _ | exact pm_b8_in _ | (unfold pm_inI; split <;> omega)) (by first | (unfold pm_inI; omega) | exact pm_and_in _ _ | exact pm_shr_in _ _ | exact pm_or_in _ _ | exact pm_xor_in _ _ | exact pm_shl_in _ _ | exact pm_cmp_in _ _ | exact pm_b8_in _ | (unfold pm_inI; split <;> omega)) (fun h8 => ?_) (fun h8 => ?_)
              · replace h8 : 9 ≤ (dd : Int) := h8
                refine g_aload_n lk_63_54 rfl ?_
                refine g_iconst lk_63_55 ?_
                refine g_virtual (p := 2) (Qc := _) lk_63_56 rfl (Nat.le_of_ble_eq_true rfl) rfl rfl (lay.on (by decide) rfl) (Nat.le_of_ble_eq_true rfl) (Nat.le_of_ble_eq_true rfl) (Nat.zero_le _) (Nat.zero_le _) (rf5) ?_
                rintro _ K1 ⟨rfl, lay1, re1, ft1⟩
                show Wp _ 63 59 [(2, ((2 : Nat) : Int)), (2, ((8 : Nat) : Int)), (0, (dd : Int)), (9, 0), (9, 0), (9, 0)] [(0, 0)] K1 _ _ _
                refine g_ireturn lk_63_59 (fun _ => by omega) ?_
                exact ⟨lay1, re1.nd, rfl, ft1⟩
              · replace h8 : ¬ (9 ≤ (dd : Int)) := h8
                refine g_aload_n lk_63_45 rfl ?_
                refine m_getfield (u := []) (M := M) lk_63_46 rfl (lay.on (by decide) rfl) (v := (c : Int)) hc ?_
                refine g_bipush lk_63_49 ?_
                refine g_icmp (t := 60) lk_63_51 rfl (by first | (unfold pm_inI; omega) | exact pm_and_in _ _ | exact pm_shr_in _ _ | exact pm_or_in _ _ | exact pm_xor_in _ _ | exact pm_shl_in _ _ | exact pm_cmp_in _ _ | exact pm_b8_in _ | (unfold pm_inI; split <;> omega)) (by first | (unfold pm_inI; omega) | exact pm_and_in _ _ | exact pm_shr_in _ _ | exact pm_or_in _ _ | exact pm_xor_in _ _ | exact pm_shl_in _ _ | exact pm_cmp_in _ _ | exact pm_b8_in _ | (unfold pm_inI; split <;> omega)) (fun h9 => ?_) (fun h9 => ?_)
                · replace h9 : (c : Int) < 31 := h9
                  omega
                · replace h9 : ¬ ((c : Int) < 31) := h9
                  refine g_aload_n lk_63_54 rfl ?_
                  refine g_iconst lk_63_55 ?_
                  refine g_virtual (p := 2) (Qc := _) lk_63_56 rfl (Nat.le_of_ble_eq_true rfl) rfl rfl (lay.on (by decide) rfl) (Nat.le_of_ble_eq_true rfl) (Nat.le_of_ble_eq_true rfl) (Nat.zero_le _) (Nat.zero_le _) (rf5) ?_
                  rintro _ K1 ⟨rfl, lay1, re1, ft1⟩
                  show Wp _ 63 59 [(2, ((2 : Nat) : Int)), (2, ((8 : Nat) : Int)), (0, (dd : Int)), (9, 0), (9, 0), (9, 0)] [(0, 0)] K1 _ _ _
                  refine g_ireturn lk_63_59 (fun _ => by omega) ?_
                  exact ⟨lay1, re1.nd, rfl, ft1⟩
            · replace h7 : ¬ ((w : Int) = 2) := h7
              omega
      · have c30 : c < 31 := by omega
        have d8 : dd < 9 := by omega
        by_cases g : twd ch t = wLeaf
        · have f13x : pm_ct M 2 13 = 239874 := by rw [f13']; exact w5.mpr g
          have rl := c_Reader_readLeaf0 (d := d) (mc := 0) (ms := 0) lay hM hT hK hc c30
          clear ih w1 w2 w3 w4 w5
          cases hp : pNum ch 0 (lxt ch n t.2.2) with
          | inl e =>
            rw [pN_lf0 a b g hp]
            rw [hp] at rl
            refine g_aload_n lk_63_0 rfl ?_
            refine m_getfield (u := []) (M := M) lk_63_1 rfl (lay.on (by decide) rfl) (v := 1) f10' ?_
            refine g_iconst lk_63_4 ?_
            refine g_icmp (t := 33) lk_63_5 rfl (by first | (unfold pm_inI; omega) | exact pm_and_in _ _ | exact pm_shr_in _ _ | exact pm_or_in _ _ | exact pm_xor_in _ _ | exact pm_shl_in _ _ | exact pm_cmp_in _ _ | exact pm_b8_in _ | (unfold pm_inI; split <;> omega)) (by first | (unfold pm_inI; omega) | exact pm_and_in _ _ | exact pm_shr_in _ _ | exact pm_or_in _ _ | exact pm_xor_in _ _ | exact pm_shl_in _ _ | exact pm_cmp_in _ _ | exact pm_b8_in _ | (unfold pm_inI; split <;> omega)) (fun h => absurd h (show ¬ (¬ (1 : Int) = (1 : Int)) by omega)) (fun _ => ?_)
            refine g_aload_n lk_63_8 rfl ?_
            refine m_getfield (u := []) (M := M) lk_63_9 rfl (lay.on (by decide) rfl) (v := 239874) f13x ?_
            refine g_ldc lk_63_12 ?_
            refine g_icmp (t := 39) lk_63_14 rfl (by first | (unfold pm_inI; omega) | exact pm_and_in _ _ | exact pm_shr_in _ _ | exact pm_or_in _ _ | exact pm_xor_in _ _ | exact pm_shl_in _ _ | exact pm_cmp_in _ _ | exact pm_b8_in _ | (unfold pm_inI; split <;> omega)) (by first | (unfold pm_inI; omega) | exact pm_and_in _ _ | exact pm_shr_in _ _ | exact pm_or_in _ _ | exact pm_xor_in _ _ | exact pm_shl_in _ _ | exact pm_cmp_in _ _ | exact pm_b8_in _ | (unfold pm_inI; split <;> omega)) (fun _ => ?_) (fun h => absurd (show (239874 : Int) = (239874 : Int) by omega) h)
            refine g_iload_n lk_63_39 rfl ?_
            refine g_bipush lk_63_40 ?_
            refine g_icmp (t := 54) lk_63_42 rfl (by first | (unfold pm_inI; omega) | exact pm_and_in _ _ | exact pm_shr_in _ _ | exact pm_or_in _ _ | exact pm_xor_in _ _ | exact pm_shl_in _ _ | exact pm_cmp_in _ _ | exact pm_b8_in _ | (unfold pm_inI; split <;> omega)) (by first | (unfold pm_inI; omega) | exact pm_and_in _ _ | exact pm_shr_in _ _ | exact pm_or_in _ _ | exact pm_xor_in _ _ | exact pm_shl_in _ _ | exact pm_cmp_in _ _ | exact pm_b8_in _ | (unfold pm_inI; split <;> omega)) (fun h1 => ?_) (fun h1 => ?_)
            · replace h1 : 9 ≤ (dd : Int) := h1
              omega
            · replace h1 : ¬ (9 ≤ (dd : Int)) := h1
              refine g_aload_n lk_63_45 rfl ?_
              refine m_getfield (u := []) (M := M) lk_63_46 rfl (lay.on (by decide) rfl) (v := (c : Int)) hc ?_
              refine g_bipush lk_63_49 ?_
              refine g_icmp (t := 60) lk_63_51 rfl (by first | (unfold pm_inI; omega) | exact pm_and_in _ _ | exact pm_shr_in _ _ | exact pm_or_in _ _ | exact pm_xor_in _ _ | exact pm_shl_in _ _ | exact pm_cmp_in _ _ | exact pm_b8_in _ | (unfold pm_inI; split <;> omega)) (by first | (unfold pm_inI; omega) | exact pm_and_in _ _ | exact pm_shr_in _ _ | exact pm_or_in _ _ | exact pm_xor_in _ _ | exact pm_shl_in _ _ | exact pm_cmp_in _ _ | exact pm_b8_in _ | (unfold pm_inI; split <;> omega)) (fun h2 => ?_) (fun h2 => ?_)
              · replace h2 : (c : Int) < 31 := h2
                refine g_aload_n lk_63_60 rfl ?_
                refine m_getfield (u := []) (M := M) lk_63_61 rfl (lay.on (by decide) rfl) (v := 239874) f13x ?_
                refine g_ldc lk_63_64 ?_
                refine g_icmp (t := 75) lk_63_66 rfl (by first | (unfold pm_inI; omega) | exact pm_and_in _ _ | exact pm_shr_in _ _ | exact pm_or_in _ _ | exact pm_xor_in _ _ | exact pm_shl_in _ _ | exact pm_cmp_in _ _ | exact pm_b8_in _ | (unfold pm_inI; split <;> omega)) (by first | (unfold pm_inI; omega) | exact pm_and_in _ _ | exact pm_shr_in _ _ | exact pm_or_in _ _ | exact pm_xor_in _ _ | exact pm_shl_in _ _ | exact pm_cmp_in _ _ | exact pm_b8_in _ | (unfold pm_inI; split <;> omega)) (fun h => absurd h (show ¬ (¬ (239874 : Int) = (239874 : Int)) by omega)) (fun _ => ?_)
                refine g_aload_n lk_63_69 rfl ?_
                refine g_aload_n lk_63_70 rfl ?_
                refine g_virtual (p := 2) (Qc := _) lk_63_71 rfl (Nat.le_of_ble_eq_true rfl) rfl rfl (lay.on (by decide) rfl) (Nat.le_of_ble_eq_true rfl) (Nat.le_of_ble_eq_true rfl) (Nat.zero_le _) (Nat.zero_le _) (rl) ?_
                rintro _ K1 ⟨lay1, nf1, rfl, ft1⟩
                show Wp _ 63 74 [(2, ((2 : Nat) : Int)), (2, ((8 : Nat) : Int)), (0, (dd : Int)), (9, 0), (9, 0), (9, 0)] [(0, 0)] K1 _ _ _
                refine g_ireturn lk_63_74 (fun _ => by omega) ?_
                exact ⟨lay1, nf1, rfl, ft1⟩
              · replace h2 : ¬ ((c : Int) < 31) := h2
                omega
          | inr v =>
            rw [pN_lf1 a b g hp]
            rw [hp] at rl
            refine g_aload_n lk_63_0 rfl ?_
            refine m_getfield (u := []) (M := M) lk_63_1 rfl (lay.on (by decide) rfl) (v := 1) f10' ?_
            refine g_iconst lk_63_4 ?_
            refine g_icmp (t := 33) lk_63_5 rfl (by first | (unfold pm_inI; omega) | exact pm_and_in _ _ | exact pm_shr_in _ _ | exact pm_or_in _ _ | exact pm_xor_in _ _ | exact pm_shl_in _ _ | exact pm_cmp_in _ _ | exact pm_b8_in _ | (unfold pm_inI; split <;> omega)) (by first | (unfold pm_inI; omega) | exact pm_and_in _ _ | exact pm_shr_in _ _ | exact pm_or_in _ _ | exact pm_xor_in _ _ | exact pm_shl_in _ _ | exact pm_cmp_in _ _ | exact pm_b8_in _ | (unfold pm_inI; split <;> omega)) (fun h => absurd h (show ¬ (¬ (1 : Int) = (1 : Int)) by omega)) (fun _ => ?_)
            refine g_aload_n lk_63_8 rfl ?_
            refine m_getfield (u := []) (M := M) lk_63_9 rfl (lay.on (by decide) rfl) (v := 239874) f13x ?_
            refine g_ldc lk_63_12 ?_
            refine g_icmp (t := 39) lk_63_14 rfl (by first | (unfold pm_inI; omega) | exact pm_and_in _ _ | exact pm_shr_in _ _ | exact pm_or_in _ _ | exact pm_xor_in _ _ | exact pm_shl_in _ _ | exact pm_cmp_in _ _ | exact pm_b8_in _ | (unfold pm_inI; split <;> omega)) (by first | (unfold pm_inI; omega) | exact pm_and_in _ _ | exact pm_shr_in _ _ | exact pm_or_in _ _ | exact pm_xor_in _ _ | exact pm_shl_in _ _ | exact pm_cmp_in _ _ | exact pm_b8_in _ | (unfold pm_inI; split <;> omega)) (fun _ => ?_) (fun h => absurd (show (239874 : Int) = (239874 : Int) by omega) h)
            refine g_iload_n lk_63_39 rfl ?_
            refine g_bipush lk_63_40 ?_
            refine g_icmp (t := 54) lk_63_42 rfl (by first | (unfold pm_inI; omega) | exact pm_and_in _ _ | exact pm_shr_in _ _ | exact pm_or_in _ _ | exact pm_xor_in _ _ | exact pm_shl_in _ _ | exact pm_cmp_in _ _ | exact pm_b8_in _ | (unfold pm_inI; split <;> omega)) (by first | (unfold pm_inI; omega) | exact pm_and_in _ _ | exact pm_shr_in _ _ | exact pm_or_in _ _ | exact pm_xor_in _ _ | exact pm_shl_in _ _ | exact pm_cmp_in _ _ | exact pm_b8_in _ | (unfold pm_inI; split <;> omega)) (fun h1 => ?_) (fun h1 => ?_)
            · replace h1 : 9 ≤ (dd : Int) := h1
              omega
            · replace h1 : ¬ (9 ≤ (dd : Int)) := h1
              refine g_aload_n lk_63_45 rfl ?_
              refine m_getfield (u := []) (M := M) lk_63_46 rfl (lay.on (by decide) rfl) (v := (c : Int)) hc ?_
              refine g_bipush lk_63_49 ?_
              refine g_icmp (t := 60) lk_63_51 rfl (by first | (unfold pm_inI; omega) | exact pm_and_in _ _ | exact pm_shr_in _ _ | exact pm_or_in _ _ | exact pm_xor_in _ _ | exact pm_shl_in _ _ | exact pm_cmp_in _ _ | exact pm_b8_in _ | (unfold pm_inI; split <;> omega)) (by first | (unfold pm_inI; omega) | exact pm_and_in _ _ | exact pm_shr_in _ _ | exact pm_or_in _ _ | exact pm_xor_in _ _ | exact pm_shl_in _ _ | exact pm_cmp_in _ _ | exact pm_b8_in _ | (unfold pm_inI; split <;> omega)) (fun h2 => ?_) (fun h2 => ?_)
              · replace h2 : (c : Int) < 31 := h2
                refine g_aload_n lk_63_60 rfl ?_
                refine m_getfield (u := []) (M := M) lk_63_61 rfl (lay.on (by decide) rfl) (v := 239874) f13x ?_
                refine g_ldc lk_63_64 ?_
                refine g_icmp (t := 75) lk_63_66 rfl (by first | (unfold pm_inI; omega) | exact pm_and_in _ _ | exact pm_shr_in _ _ | exact pm_or_in _ _ | exact pm_xor_in _ _ | exact pm_shl_in _ _ | exact pm_cmp_in _ _ | exact pm_b8_in _ | (unfold pm_inI; split <;> omega)) (by first | (unfold pm_inI; omega) | exact pm_and_in _ _ | exact pm_shr_in _ _ | exact pm_or_in _ _ | exact pm_xor_in _ _ | exact pm_shl_in _ _ | exact pm_cmp_in _ _ | exact pm_b8_in _ | (unfold pm_inI; split <;> omega)) (fun h => absurd h (show ¬ (¬ (239874 : Int) = (239874 : Int)) by omega)) (fun _ => ?_)
                refine g_aload_n lk_63_69 rfl ?_
                refine g_aload_n lk_63_70 rfl ?_
                refine g_virtual (p := 2) (Qc := _) lk_63_71 rfl (Nat.le_of_ble_eq_true rfl) rfl rfl (lay.on (by decide) rfl) (Nat.le_of_ble_eq_true rfl) (Nat.le_of_ble_eq_true rfl) (Nat.zero_le _) (Nat.zero_le _) (rl) ?_
                rintro _ K1 ⟨lay1, nf1, rfl, x1⟩
                show Wp _ 63 74 [(2, ((2 : Nat) : Int)), (2, ((8 : Nat) : Int)), (0, (dd : Int)), (9, 0), (9, 0), (9, 0)] [(0, 1)] K1 _ _ _
                refine g_ireturn lk_63_74 (fun _ => by omega) ?_
                exact ⟨lay1, nf1, rfl, x1⟩
              · replace h2 : ¬ ((c : Int) < 31) := h2
                omega
        · have u1 := (lxt_ok (ch := ch) hK.2.2.1 n5).1
          have u2 := (lxt_ok (ch := ch) u1.2.2.1 n5).1
          have ad := c_Reader_advance (d := d + 1) (mc := 0) (ms := 0) lay hM hT.2.2.2.1 hK.2.2.1
          by_cases y : twd ch t = wdA
          · have em : (if twd ch t = wdA then R else C) = R := if_pos y
            have ex : (if twd ch t = wdA then 1 else 2) = 1 := if_pos y
            have f13x : pm_ct M 2 13 = 1 := by rw [f13']; exact w1.mpr y
            cases hp : pSet ch (if twd ch t = wdA then R else C) (lxt ch n t.2.2) with
            | inl e =>
              rw [pN_nd0 a b g hp]
              rw [em] at hp
              clear ih w1 w2 w3 w4 w5
              refine g_aload_n lk_63_0 rfl ?_
              refine m_getfield (u := []) (M := M) lk_63_1 rfl (lay.on (by decide) rfl) (v := 1) f10' ?_
              refine g_iconst lk_63_4 ?_
              refine g_icmp (t := 33) lk_63_5 rfl (by first | (unfold pm_inI; omega) | exact pm_and_in _ _ | exact pm_shr_in _ _ | exact pm_or_in _ _ | exact pm_xor_in _ _ | exact pm_shl_in _ _ | exact pm_cmp_in _ _ | exact pm_b8_in _ | (unfold pm_inI; split <;> omega)) (by first | (unfold pm_inI; omega) | exact pm_and_in _ _ | exact pm_shr_in _ _ | exact pm_or_in _ _ | exact pm_xor_in _ _ | exact pm_shl_in _ _ | exact pm_cmp_in _ _ | exact pm_b8_in _ | (unfold pm_inI; split <;> omega)) (fun h => absurd h (show ¬ (¬ (1 : Int) = (1 : Int)) by omega)) (fun _ => ?_)
              refine g_aload_n lk_63_8 rfl ?_
              refine m_getfield (u := []) (M := M) lk_63_9 rfl (lay.on (by decide) rfl) (v := 1) f13x ?_
              refine g_ldc lk_63_12 ?_
              refine g_icmp (t := 39) lk_63_14 rfl (by first | (unfold pm_inI; omega) | exact pm_and_in _ _ | exact pm_shr_in _ _ | exact pm_or_in _ _ | exact pm_xor_in _ _ | exact pm_shl_in _ _ | exact pm_cmp_in _ _ | exact pm_b8_in _ | (unfold pm_inI; split <;> omega)) (by first | (unfold pm_inI; omega) | exact pm_and_in _ _ | exact pm_shr_in _ _ | exact pm_or_in _ _ | exact pm_xor_in _ _ | exact pm_shl_in _ _ | exact pm_cmp_in _ _ | exact pm_b8_in _ | (unfold pm_inI; split <;> omega)) (fun h => absurd h (show ¬ ((1 : Int) = (239874 : Int)) by omega)) (fun _ => ?_)
              refine g_aload_n lk_63_17 rfl ?_
              refine m_getfield (u := []) (M := M) lk_63_18 rfl (lay.on (by decide) rfl) (v := 1) f13x ?_
              refine g_iconst lk_63_21 ?_
              refine g_icmp (t := 39) lk_63_22 rfl (by first | (unfold pm_inI; omega) | exact pm_and_in _ _ | exact pm_shr_in _ _ | exact pm_or_in _ _ | exact pm_xor_in _ _ | exact pm_shl_in _ _ | exact pm_cmp_in _ _ | exact pm_b8_in _ | (unfold pm_inI; split <;> omega)) (by first | (unfold pm_inI; omega) | exact pm_and_in _ _ | exact pm_shr_in _ _ | exact pm_or_in _ _ | exact pm_xor_in _ _ | exact pm_shl_in _ _ | exact pm_cmp_in _ _ | exact pm_b8_in _ | (unfold pm_inI; split <;> omega)) (fun _ => ?_) (fun h => absurd (show (1 : Int) = (1 : Int) by omega) h)
              refine g_iload_n lk_63_39 rfl ?_
              refine g_bipush lk_63_40 ?_
              refine g_icmp (t := 54) lk_63_42 rfl (by first | (unfold pm_inI; omega) | exact pm_and_in _ _ | exact pm_shr_in _ _ | exact pm_or_in _ _ | exact pm_xor_in _ _ | exact pm_shl_in _ _ | exact pm_cmp_in _ _ | exact pm_b8_in _ | (unfold pm_inI; split <;> omega)) (by first | (unfold pm_inI; omega) | exact pm_and_in _ _ | exact pm_shr_in _ _ | exact pm_or_in _ _ | exact pm_xor_in _ _ | exact pm_shl_in _ _ | exact pm_cmp_in _ _ | exact pm_b8_in _ | (unfold pm_inI; split <;> omega)) (fun h1 => ?_) (fun h1 => ?_)
              · replace h1 : 9 ≤ (dd : Int) := h1
                omega
              · replace h1 : ¬ (9 ≤ (dd : Int)) := h1
                refine g_aload_n lk_63_45 rfl ?_
                refine m_getfield (u := []) (M := M) lk_63_46 rfl (lay.on (by decide) rfl) (v := (c : Int)) hc ?_
                refine g_bipush lk_63_49 ?_
                refine g_icmp (t := 60) lk_63_51 rfl (by first | (unfold pm_inI; omega) | exact pm_and_in _ _ | exact pm_shr_in _ _ | exact pm_or_in _ _ | exact pm_xor_in _ _ | exact pm_shl_in _ _ | exact pm_cmp_in _ _ | exact pm_b8_in _ | (unfold pm_inI; split <;> omega)) (by first | (unfold pm_inI; omega) | exact pm_and_in _ _ | exact pm_shr_in _ _ | exact pm_or_in _ _ | exact pm_xor_in _ _ | exact pm_shl_in _ _ | exact pm_cmp_in _ _ | exact pm_b8_in _ | (unfold pm_inI; split <;> omega)) (fun h2 => ?_) (fun h2 => ?_)
                · replace h2 : (c : Int) < 31 := h2
                  refine g_aload_n lk_63_60 rfl ?_
                  refine m_getfield (u := []) (M := M) lk_63_61 rfl (lay.on (by decide) rfl) (v := 1) f13x ?_
                  refine g_ldc lk_63_64 ?_
                  refine g_icmp (t := 75) lk_63_66 rfl (by first | (unfold pm_inI; omega) | exact pm_and_in _ _ | exact pm_shr_in _ _ | exact pm_or_in _ _ | exact pm_xor_in _ _ | exact pm_shl_in _ _ | exact pm_cmp_in _ _ | exact pm_b8_in _ | (unfold pm_inI; split <;> omega)) (by first | (unfold pm_inI; omega) | exact pm_and_in _ _ | exact pm_shr_in _ _ | exact pm_or_in _ _ | exact pm_xor_in _ _ | exact pm_shl_in _ _ | exact pm_cmp_in _ _ | exact pm_b8_in _ | (unfold pm_inI; split <;> omega)) (fun _ => ?_) (fun h => absurd (show ¬ (1 : Int) = (239874 : Int) by omega) h)
                  refine g_aload_n lk_63_75 rfl ?_
                  refine m_getfield (u := []) (M := M) lk_63_76 rfl (lay.on (by decide) rfl) (v := 1) f13x ?_
                  refine g_iconst lk_63_79 ?_
                  refine g_icmp (t := 87) lk_63_80 rfl (by first | (unfold pm_inI; omega) | exact pm_and_in _ _ | exact pm_shr_in _ _ | exact pm_or_in _ _ | exact pm_xor_in _ _ | exact pm_shl_in _ _ | exact pm_cmp_in _ _ | exact pm_b8_in _ | (unfold pm_inI; split <;> omega)) (by first | (unfold pm_inI; omega) | exact pm_and_in _ _ | exact pm_shr_in _ _ | exact pm_or_in _ _ | exact pm_xor_in _ _ | exact pm_shl_in _ _ | exact pm_cmp_in _ _ | exact pm_b8_in _ | (unfold pm_inI; split <;> omega)) (fun h => absurd h (show ¬ (¬ (1 : Int) = (1 : Int)) by omega)) (fun _ => ?_)
                  refine g_iconst lk_63_83 ?_
                  refine g_goto (t := 88) lk_63_84 rfl ?_
                  refine g_istore_n (ls' := [(2, ((2 : Nat) : Int)), (2, ((8 : Nat) : Int)), (0, (dd : Int)), (0, 1), (9, 0), (9, 0)]) lk_63_88 rfl rfl ?_
                  refine g_aload_n lk_63_89 rfl ?_
                  refine g_virtual (p := 2) (Qc := _) lk_63_90 rfl (Nat.le_of_ble_eq_true rfl) rfl rfl (lay.on (by decide) rfl) (Nat.le_of_ble_eq_true rfl) (Nat.le_of_ble_eq_true rfl) (Nat.zero_le _) (Nat.zero_le _) (ad) ?_
                  rintro _ K1 ⟨rfl, lay1, rd1, tk1⟩
                  have f4 : pm_ct K1 4 1 = (R : Int) := (by rw [rd1.1.ct (by decide)]; exact hR)
                  have hc1 : pm_ct K1 8 3 = (c : Int) := (by rw [rd1.1.ct (by decide)]; exact hc)
                  show Wp _ 63 93 [(2, ((2 : Nat) : Int)), (2, ((8 : Nat) : Int)), (0, (dd : Int)), (0, 1), (9, 0), (9, 0)] [] K1 _ _ _
                  refine g_aload_n lk_63_93 rfl ?_
                  refine g_iload_n lk_63_94 rfl ?_
                  refine g_if (t := 108) lk_63_95 rfl (by first | (unfold pm_inI; omega) | exact pm_and_in _ _ | exact pm_shr_in _ _ | exact pm_or_in _ _ | exact pm_xor_in _ _ | exact pm_shl_in _ _ | exact pm_cmp_in _ _ | exact pm_b8_in _ | (unfold pm_inI; split <;> omega)) (fun h => absurd h (show ¬ ((1 : Int) = (0 : Int)) by omega)) (fun _ => ?_)
                  refine g_aload_n lk_63_98 rfl ?_
                  refine g_getfield lk_63_99 rfl (lay1.on (by decide) rfl) (v := ((4 : Nat) : Int)) (lay1.rf rfl) ?_
                  refine m_getfield (u := []) (M := K1) lk_63_102 rfl (lay1.on (by decide) rfl) (v := (R : Int)) f4 ?_
                  refine g_goto (t := 115) lk_63_105 rfl ?_
                  refine g_virtual (p := 2) (Qc := _) lk_63_115 rfl (Nat.le_of_ble_eq_true rfl) rfl rfl (lay1.on (by decide) rfl) (Nat.le_of_ble_eq_true rfl) (Nat.le_of_ble_eq_true rfl) (Nat.zero_le _) (Nat.zero_le _) (c_Reader_readSet (d := d + 1) (mc := 0) (ms := 0) lay1 (hM.rd rd1) tk1 u1 r6) ?_
                  rintro ρ2 K2 ⟨lay2, re2, o2⟩
                  obtain ⟨rfl, ft2⟩ := set_inl hp o2
                  show Wp _ 63 118 [(2, ((2 : Nat) : Int)), (2, ((8 : Nat) : Int)), (0, (dd : Int)), (0, 1), (9, 0), (9, 0)] [(0, 0)] K2 _ _ _
                  refine g_istore (ls' := [(2, ((2 : Nat) : Int)), (2, ((8 : Nat) : Int)), (0, (dd : Int)), (0, 1), (0, 0), (9, 0)]) lk_63_118 rfl rfl ?_
                  refine g_iload lk_63_120 rfl ?_
                  refine g_if (t := 127) lk_63_122 rfl (by first | (unfold pm_inI; omega) | exact pm_and_in _ _ | exact pm_shr_in _ _ | exact pm_or_in _ _ | exact pm_xor_in _ _ | exact pm_shl_in _ _ | exact pm_cmp_in _ _ | exact pm_b8_in _ | (unfold pm_inI; split <;> omega)) (fun h => absurd h (show ¬ (¬ (0 : Int) = (0 : Int)) by omega)) (fun _ => ?_)
                  refine g_iconst lk_63_125 ?_
                  refine g_ireturn lk_63_126 (fun _ => by omega) ?_
                  exact ⟨lay2, rd1.re.nd.trans re2.nd, rfl, ft2⟩
                · replace h2 : ¬ ((c : Int) < 31) := h2
                  omega
            | inr s =>
              cases k1 : pN ch n R C f (dd + 1) (c + 1) c (lxt ch n (lxt ch n t.2.2).2.2) with
              | inl e =>
                rw [pN_nd1 a b g hp k1]
                rw [em] at hp
                clear w1 w2 w3 w4 w5
                refine g_aload_n lk_63_0 rfl ?_
                refine m_getfield (u := []) (M := M) lk_63_1 rfl (lay.on (by decide) rfl) (v := 1) f10' ?_
                refine g_iconst lk_63_4 ?_
                refine g_icmp (t := 33) lk_63_5 rfl (by first | (unfold pm_inI; omega) | exact pm_and_in _ _ | exact pm_shr_in _ _ | exact pm_or_in _ _ | exact pm_xor_in _ _ | exact pm_shl_in _ _ | exact pm_cmp_in _ _ | exact pm_b8_in _ | (unfold pm_inI; split <;> omega)) (by first | (unfold pm_inI; omega) | exact pm_and_in _ _ | exact pm_shr_in _ _ | exact pm_or_in _ _ | exact pm_xor_in _ _ | exact pm_shl_in _ _ | exact pm_cmp_in _ _ | exact pm_b8_in _ | (unfold pm_inI; split <;> omega)) (fun h => absurd h (show ¬ (¬ (1 : Int) = (1 : Int)) by omega)) (fun _ => ?_)
                refine g_aload_n lk_63_8 rfl ?_
                refine m_getfield (u := []) (M := M) lk_63_9 rfl (lay.on (by decide) rfl) (v := 1) f13x ?_
                refine g_ldc lk_63_12 ?_
                refine g_icmp (t := 39) lk_63_14 rfl (by first | (unfold pm_inI; omega) | exact pm_and_in _ _ | exact pm_shr_in _ _ | exact pm_or_in _ _ | exact pm_xor_in _ _ | exact pm_shl_in _ _ | exact pm_cmp_in _ _ | exact pm_b8_in _ | (unfold pm_inI; split <;> omega)) (by first | (unfold pm_inI; omega) | exact pm_and_in _ _ | exact pm_shr_in _ _ | exact pm_or_in _ _ | exact pm_xor_in _ _ | exact pm_shl_in _ _ | exact pm_cmp_in _ _ | exact pm_b8_in _ | (unfold pm_inI; split <;> omega)) (fun h => absurd h (show ¬ ((1 : Int) = (239874 : Int)) by omega)) (fun _ => ?_)
                refine g_aload_n lk_63_17 rfl ?_
                refine m_getfield (u := []) (M := M) lk_63_18 rfl (lay.on (by decide) rfl) (v := 1) f13x ?_
                refine g_iconst lk_63_21 ?_
                refine g_icmp (t := 39) lk_63_22 rfl (by first | (unfold pm_inI; omega) | exact pm_and_in _ _ | exact pm_shr_in _ _ | exact pm_or_in _ _ | exact pm_xor_in _ _ | exact pm_shl_in _ _ | exact pm_cmp_in _ _ | exact pm_b8_in _ | (unfold pm_inI; split <;> omega)) (by first | (unfold pm_inI; omega) | exact pm_and_in _ _ | exact pm_shr_in _ _ | exact pm_or_in _ _ | exact pm_xor_in _ _ | exact pm_shl_in _ _ | exact pm_cmp_in _ _ | exact pm_b8_in _ | (unfold pm_inI; split <;> omega)) (fun _ => ?_) (fun h => absurd (show (1 : Int) = (1 : Int) by omega) h)
                refine g_iload_n lk_63_39 rfl ?_
                refine g_bipush lk_63_40 ?_
                refine g_icmp (t := 54) lk_63_42 rfl (by first | (unfold pm_inI; omega) | exact pm_and_in _ _ | exact pm_shr_in _ _ | exact pm_or_in _ _ | exact pm_xor_in _ _ | exact pm_shl_in _ _ | exact pm_cmp_in _ _ | exact pm_b8_in _ | (unfold pm_inI; split <;> omega)) (by first | (unfold pm_inI; omega) | exact pm_and_in _ _ | exact pm_shr_in _ _ | exact pm_or_in _ _ | exact pm_xor_in _ _ | exact pm_shl_in _ _ | exact pm_cmp_in _ _ | exact pm_b8_in _ | (unfold pm_inI; split <;> omega)) (fun h1 => ?_) (fun h1 => ?_)
                · replace h1 : 9 ≤ (dd : Int) := h1
                  omega
                · replace h1 : ¬ (9 ≤ (dd : Int)) := h1
                  refine g_aload_n lk_63_45 rfl ?_
                  refine m_getfield (u := []) (M := M) lk_63_46 rfl (lay.on (by decide) rfl) (v := (c : Int)) hc ?_
                  refine g_bipush lk_63_49 ?_
                  refine g_icmp (t := 60) lk_63_51 rfl (by first | (unfold pm_inI; omega) | exact pm_and_in _ _ | exact pm_shr_in _ _ | exact pm_or_in _ _ | exact pm_xor_in _ _ | exact pm_shl_in _ _ | exact pm_cmp_in _ _ | exact pm_b8_in _ | (unfold pm_inI; split <;> omega)) (by first | (unfold pm_inI; omega) | exact pm_and_in _ _ | exact pm_shr_in _ _ | exact pm_or_in _ _ | exact pm_xor_in _ _ | exact pm_shl_in _ _ | exact pm_cmp_in _ _ | exact pm_b8_in _ | (unfold pm_inI; split <;> omega)) (fun h2 => ?_) (fun h2 => ?_)
                  · replace h2 : (c : Int) < 31 := h2
                    refine g_aload_n lk_63_60 rfl ?_
                    refine m_getfield (u := []) (M := M) lk_63_61 rfl (lay.on (by decide) rfl) (v := 1) f13x ?_
                    refine g_ldc lk_63_64 ?_
                    refine g_icmp (t := 75) lk_63_66 rfl (by first | (unfold pm_inI; omega) | exact pm_and_in _ _ | exact pm_shr_in _ _ | exact pm_or_in _ _ | exact pm_xor_in _ _ | exact pm_shl_in _ _ | exact pm_cmp_in _ _ | exact pm_b8_in _ | (unfold pm_inI; split <;> omega)) (by first | (unfold pm_inI; omega) | exact pm_and_in _ _ | exact pm_shr_in _ _ | exact pm_or_in _ _ | exact pm_xor_in _ _ | exact pm_shl_in _ _ | exact pm_cmp_in _ _ | exact pm_b8_in _ | (unfold pm_inI; split <;> omega)) (fun _ => ?_) (fun h => absurd (show ¬ (1 : Int) = (239874 : Int) by omega) h)
                    refine g_aload_n lk_63_75 rfl ?_
                    refine m_getfield (u := []) (M := M) lk_63_76 rfl (lay.on (by decide) rfl) (v := 1) f13x ?_
                    refine g_iconst lk_63_79 ?_
                    refine g_icmp (t := 87) lk_63_80 rfl (by first | (unfold pm_inI; omega) | exact pm_and_in _ _ | exact pm_shr_in _ _ | exact pm_or_in _ _ | exact pm_xor_in _ _ | exact pm_shl_in _ _ | exact pm_cmp_in _ _ | exact pm_b8_in _ | (unfold pm_inI; split <;> omega)) (by first | (unfold pm_inI; omega) | exact pm_and_in _ _ | exact pm_shr_in _ _ | exact pm_or_in _ _ | exact pm_xor_in _ _ | exact pm_shl_in _ _ | exact pm_cmp_in _ _ | exact pm_b8_in _ | (unfold pm_inI; split <;> omega)) (fun h => absurd h (show ¬ (¬ (1 : Int) = (1 : Int)) by omega)) (fun _ => ?_)
                    refine g_iconst lk_63_83 ?_
                    refine g_goto (t := 88) lk_63_84 rfl ?_
                    refine g_istore_n (ls' := [(2, ((2 : Nat) : Int)), (2, ((8 : Nat) : Int)), (0, (dd : Int)), (0, 1), (9, 0), (9, 0)]) lk_63_88 rfl rfl ?_
                    refine g_aload_n lk_63_89 rfl ?_
                    refine g_virtual (p := 2) (Qc := _) lk_63_90 rfl (Nat.le_of_ble_eq_true rfl) rfl rfl (lay.on (by decide) rfl) (Nat.le_of_ble_eq_true rfl) (Nat.le_of_ble_eq_true rfl) (Nat.zero_le _) (Nat.zero_le _) (ad) ?_
                    rintro _ K1 ⟨rfl, lay1, rd1, tk1⟩
                    have f4 : pm_ct K1 4 1 = (R : Int) := (by rw [rd1.1.ct (by decide)]; exact hR)
                    have hc1 : pm_ct K1 8 3 = (c : Int) := (by rw [rd1.1.ct (by decide)]; exact hc)
                    show Wp _ 63 93 [(2, ((2 : Nat) : Int)), (2, ((8 : Nat) : Int)), (0, (dd : Int)), (0, 1), (9, 0), (9, 0)] [] K1 _ _ _
                    refine g_aload_n lk_63_93 rfl ?_
                    refine g_iload_n lk_63_94 rfl ?_
                    refine g_if (t := 108) lk_63_95 rfl (by first | (unfold pm_inI; omega) | exact pm_and_in _ _ | exact pm_shr_in _ _ | exact pm_or_in _ _ | exact pm_xor_in _ _ | exact pm_shl_in _ _ | exact pm_cmp_in _ _ | exact pm_b8_in _ | (unfold pm_inI; split <;> omega)) (fun h => absurd h (show ¬ ((1 : Int) = (0 : Int)) by omega)) (fun _ => ?_)
                    refine g_aload_n lk_63_98 rfl ?_
                    refine g_getfield lk_63_99 rfl (lay1.on (by decide) rfl) (v := ((4 : Nat) : Int)) (lay1.rf rfl) ?_
                    refine m_getfield (u := []) (M := K1) lk_63_102 rfl (lay1.on (by decide) rfl) (v := (R : Int)) f4 ?_
                    refine g_goto (t := 115) lk_63_105 rfl ?_
                    refine g_virtual (p := 2) (Qc := _) lk_63_115 rfl (Nat.le_of_ble_eq_true rfl) rfl rfl (lay1.on (by decide) rfl) (Nat.le_of_ble_eq_true rfl) (Nat.le_of_ble_eq_true rfl) (Nat.zero_le _) (Nat.zero_le _) (c_Reader_readSet (d := d + 1) (mc := 0) (ms := 0) lay1 (hM.rd rd1) tk1 u1 r6) ?_
                    rintro ρ2 K2 ⟨lay2, re2, o2⟩
                    obtain ⟨s1, s2, rfl, eK⟩ := set_inr hp o2
                    rw [eK]
                    show Wp _ 63 118 [(2, ((2 : Nat) : Int)), (2, ((8 : Nat) : Int)), (0, (dd : Int)), (0, 1), (9, 0), (9, 0)] [(0, (s : Int))] K1 _ _ _
                    refine g_istore (ls' := [(2, ((2 : Nat) : Int)), (2, ((8 : Nat) : Int)), (0, (dd : Int)), (0, 1), (0, (s : Int)), (9, 0)]) lk_63_118 rfl rfl ?_
                    refine g_iload lk_63_120 rfl ?_
                    refine g_if (t := 127) lk_63_122 rfl (by first | (unfold pm_inI; omega) | exact pm_and_in _ _ | exact pm_shr_in _ _ | exact pm_or_in _ _ | exact pm_xor_in _ _ | exact pm_shl_in _ _ | exact pm_cmp_in _ _ | exact pm_b8_in _ | (unfold pm_inI; split <;> omega)) (fun h3 => ?_) (fun h3 => ?_)
                    · replace h3 : ¬ (s : Int) = 0 := h3
                      refine g_aload_n lk_63_127 rfl ?_
                      refine g_iload_n lk_63_128 rfl ?_
                      refine g_if (t := 136) lk_63_129 rfl (by first | (unfold pm_inI; omega) | exact pm_and_in _ _ | exact pm_shr_in _ _ | exact pm_or_in _ _ | exact pm_xor_in _ _ | exact pm_shl_in _ _ | exact pm_cmp_in _ _ | exact pm_b8_in _ | (unfold pm_inI; split <;> omega)) (fun h => absurd h (show ¬ ((1 : Int) = (0 : Int)) by omega)) (fun _ => ?_)
                      refine g_iconst lk_63_132 ?_
                      refine g_goto (t := 137) lk_63_133 rfl ?_
                      refine g_iload lk_63_137 rfl ?_
                      refine g_virtual (p := 8) (Qc := _) lk_63_139 rfl (Nat.le_of_ble_eq_true rfl) rfl rfl (lay1.on (by decide) rfl) (Nat.le_of_ble_eq_true rfl) (Nat.le_of_ble_eq_true rfl) (Nat.zero_le _) (Nat.zero_le _) (c_Nodes_addR0 (d := d + 2) (mc := 0) (ms := 0) (x := 1) (y := s) lay1 hc1 c30) ?_
                      rintro _ K3 ⟨rfl, lay3, ax⟩
                      have tc3 := (ax.nd (by omega)).tc (by omega) (hM.rd rd1)
                      have ad3 := c_Reader_advance (d := d + 1) (mc := 0) (ms := 0) lay3 tc3 (ax.tk (by omega) tk1).2.2.2.1 u1.2.2.1
                      show Wp _ 63 142 [(2, ((2 : Nat) : Int)), (2, ((8 : Nat) : Int)), (0, (dd : Int)), (0, 1), (0, (s : Int)), (9, 0)] [(0, (c : Int))] K3 _ _ _
                      refine g_istore (ls' := [(2, ((2 : Nat) : Int)), (2, ((8 : Nat) : Int)), (0, (dd : Int)), (0, 1), (0, (s : Int)), (0, (c : Int))]) lk_63_142 rfl rfl ?_
                      refine g_aload_n lk_63_144 rfl ?_
                      refine g_virtual (p := 2) (Qc := _) lk_63_145 rfl (Nat.le_of_ble_eq_true rfl) rfl rfl (lay3.on (by decide) rfl) (Nat.le_of_ble_eq_true rfl) (Nat.le_of_ble_eq_true rfl) (Nat.zero_le _) (Nat.zero_le _) (ad3) ?_
                      rintro _ K4 ⟨rfl, lay4, rd4, tk4⟩
                      have F4 : NdF 8 M K4 := (rd1.re.nd.trans (ax.nd (by omega))).trans rd4.re.nd
                      have x3 : Blw M K4 8 c := ((rd1.blw (by omega)).trans ax.blw (Nat.le_refl _)).trans (rd4.blw (c := c) (by omega)) (Nat.le_refl _)
                      have x1 : pm_ct K4 9 c = (1 : Int) := (by rw [rd4.1.ct (by decide)]; exact ax.at.1)
                      have x2 : pm_ct K4 10 c = (s : Int) := (by rw [rd4.1.ct (by decide)]; exact ax.at.2.1)
                      have sv4 : Sv M K4 := (rd1.sv.trans (ax.1.sv (by decide))).trans rd4.sv
                      have g4 := ih (d + 2) 0 0 K4 (dd + 1) (c + 1) c _ (by omega) (by omega) (by omega) lay4 (tc3.rd rd4) tk4 u2 (by rw [F4.c (by omega) (Or.inr rfl)]; exact hR) (by rw [F4.c (by omega) (Or.inr rfl)]; exact hC) (by rw [rd4.1.ct (by decide)]; exact ax.2.1) (by omega)
                      rw [k1] at g4
                      show Wp _ 63 148 [(2, ((2 : Nat) : Int)), (2, ((8 : Nat) : Int)), (0, (dd : Int)), (0, 1), (0, (s : Int)), (0, (c : Int))] [] K4 _ _ _
                      refine g_iload lk_63_148 rfl ?_
                      refine g_if (t := 164) lk_63_150 rfl (by first | (unfold pm_inI; omega) | exact pm_and_in _ _ | exact pm_shr_in _ _ | exact pm_or_in _ _ | exact pm_xor_in _ _ | exact pm_shl_in _ _ | exact pm_cmp_in _ _ | exact pm_b8_in _ | (unfold pm_inI; split <;> omega)) (fun h4 => ?_) (fun h4 => ?_)
                      · replace h4 : (c : Int) < 0 := h4
                        refine g_iconst lk_63_164 ?_
                        refine g_ireturn lk_63_165 (fun _ => by omega) ?_
                        first | exact ⟨lay5, F4.trans nf5, rfl, ft5⟩ | (exfalso; omega)
                      · replace h4 : ¬ ((c : Int) < 0) := h4
                        refine g_aload_n lk_63_153 rfl ?_
                        refine g_aload_n lk_63_154 rfl ?_
                        refine g_iload_n lk_63_155 rfl ?_
                        refine g_iconst lk_63_156 ?_
                        refine g_iadd lk_63_157 ?_
                        refine g_virtual (p := 2) (Qc := _) lk_63_158 rfl (Nat.le_of_ble_eq_true rfl) rfl rfl (lay4.on (by decide) rfl) (Nat.le_of_ble_eq_true rfl) (Nat.le_of_ble_eq_true rfl) (Nat.zero_le _) (Nat.zero_le _) (g4) ?_
                        rintro _ K5 ⟨lay5, nf5, rfl, ft5⟩
                        show Wp _ 63 161 [(2, ((2 : Nat) : Int)), (2, ((8 : Nat) : Int)), (0, (dd : Int)), (0, 1), (0, (s : Int)), (0, (c : Int))] [(0, 0)] K5 _ _ _
                        refine g_if (t := 166) lk_63_161 rfl (by first | (unfold pm_inI; omega) | exact pm_and_in _ _ | exact pm_shr_in _ _ | exact pm_or_in _ _ | exact pm_xor_in _ _ | exact pm_shl_in _ _ | exact pm_cmp_in _ _ | exact pm_b8_in _ | (unfold pm_inI; split <;> omega)) (fun h => absurd h (show ¬ (¬ (0 : Int) = (0 : Int)) by omega)) (fun _ => ?_)
                        refine g_iconst lk_63_164 ?_
                        refine g_ireturn lk_63_165 (fun _ => by omega) ?_
                        first | exact ⟨lay5, F4.trans nf5, rfl, ft5⟩ | (exfalso; omega)
                    · replace h3 : ¬ (¬ (s : Int) = 0) := h3
                      refine g_iconst lk_63_125 ?_
                      refine g_ireturn lk_63_126 (fun _ => by omega) ?_
                      first | exact ⟨lay5, F4.trans nf5, rfl, ft5⟩ | (exfalso; omega)
                  · replace h2 : ¬ ((c : Int) < 31) := h2
                    omega
              | inr y1 =>
                obtain ⟨L1, t1⟩ := y1
                obtain ⟨v1, v2, v3⟩ := pN_ok n5 f u2 k1
                have step : ∀ K4 K5 : pm_M, Lay K5 → NdF 8 M K4 → NdF 8 K4 K5 → pm_ct K4 9 c = (1 : Int) → pm_ct K4 10 c = (s : Int) → Blw M K4 8 c → TkX K5 ch t1 → pm_ct K5 8 3 = ((c + 1 + L1.length : Nat) : Int) → SgAt K5 8 (c + 1) (L1.map (fun y => y.1)) → Blw K4 K5 8 (c + 1) → Sv M K5 → Wp (d + 3) 63 166 [(2, ((2 : Nat) : Int)), (2, ((8 : Nat) : Int)), (0, (dd : Int)), (0, 1), (0, (s : Int)), (0, (c : Int))] [] K5 mc ms (fun ρ M' => Lay M' ∧ NdF 8 M M' ∧ ResX ρ M' (fun x => TkX M' ch x.2 ∧ pm_ct M' 8 3 = ((c + x.1.length : Nat) : Int) ∧ SgAt M' 8 c (x.1.map (fun y => y.1)) ∧ Blw M M' 8 c ∧ Sv M M') (pN ch n R C (f + 1) dd c q t)) := by
                  intro K4 K5 lay5 F4 F5 x1 x2 x3 tk5 ct5 sg5 bl5 sv5
                  cases k2 : pN ch n R C f (dd + 1) (c + 1 + L1.length) c t1 with
                  | inl e =>
                    rw [pN_nd2 a b g hp k1 k2]
                    refine g_aload_n lk_63_166 rfl ?_
                    refine g_getfield lk_63_167 rfl (lay5.on (by decide) rfl) (v := ((11 : Nat) : Int)) (lay5.rf rfl) ?_
                    refine g_iload lk_63_170 rfl ?_
                    refine g_aload_n lk_63_172 rfl ?_
                    refine m_getfield (u := []) (M := K5) lk_63_173 rfl (lay5.on (by decide) rfl) (v := ((c + 1 + L1.length : Nat) : Int)) ct5 ?_
                    have lay1 : Lay (Mu [(11, pm_upd (pm_ct K5 11) c ((c + 1 + L1.length : Nat) : Int))] K5) := lay5.muA (l := []) (a := 11) (f := pm_upd (pm_ct K5 11) c ((c + 1 + L1.length : Nat) : Int)) rfl rfl
                    refine m_iastore (u := []) (u' := [(11, pm_upd (pm_ct K5 11) c ((c + 1 + L1.length : Nat) : Int))]) (M := K5) lk_63_176 (lay5.ay (by decide) rfl) (by omega) (j := c) (by omega) rfl ?_
                    refine g_aload_n lk_63_177 rfl ?_
                    refine g_aload_n lk_63_178 rfl ?_
                    refine g_iload_n lk_63_179 rfl ?_
                    refine g_iconst lk_63_180 ?_
                    refine g_iadd lk_63_181 ?_
                    have fM : Fr [11] K5 (Mu [(11, pm_upd (pm_ct K5 11) c ((c + 1 + L1.length : Nat) : Int))] K5) := Fr.mu _ _ rfl
                    have F6 : NdF 8 M (Mu [(11, pm_upd (pm_ct K5 11) c ((c + 1 + L1.length : Nat) : Int))] K5) := (F4.trans F5).trans (Fr.nd3 (P := 8) fM (by omega))
                    have g5 := ih (d + 2) 0 0 (Mu [(11, pm_upd (pm_ct K5 11) c ((c + 1 + L1.length : Nat) : Int))] K5) (dd + 1) (c + 1 + L1.length) c t1 (by omega) (by omega) (by omega) lay1 (F6.tc (by omega) hM) (Fr.tk3 (P := 8) fM (by omega) tk5) v1 (by rw [F6.c (by omega) (Or.inr rfl)]; exact hR) (by rw [F6.c (by omega) (Or.inr rfl)]; exact hC) (by rw [fM.ct (by decide)]; exact ct5) (by omega)
                    rw [k2] at g5
                    refine g_virtual (p := 2) (Qc := _) lk_63_182 rfl (Nat.le_of_ble_eq_true rfl) rfl rfl (lay1.on (by decide) rfl) (Nat.le_of_ble_eq_true rfl) (Nat.le_of_ble_eq_true rfl) (Nat.zero_le _) (Nat.zero_le _) g5 ?_
                    rintro _ K7 ⟨lay7, nf7, rfl, ft7⟩
                    refine g_ireturn lk_63_185 (fun _ => by omega) ?_
                    exact ⟨lay7, F6.trans nf7, rfl, ft7⟩
                  | inr y2 =>
                    obtain ⟨L2, t2⟩ := y2
                    rw [pN_nd3 a b g hp k1 k2, ex]
                    refine g_aload_n lk_63_166 rfl ?_
                    refine g_getfield lk_63_167 rfl (lay5.on (by decide) rfl) (v := ((11 : Nat) : Int)) (lay5.rf rfl) ?_
                    refine g_iload lk_63_170 rfl ?_
                    refine g_aload_n lk_63_172 rfl ?_
                    refine m_getfield (u := []) (M := K5) lk_63_173 rfl (lay5.on (by decide) rfl) (v := ((c + 1 + L1.length : Nat) : Int)) ct5 ?_
                    have lay1 : Lay (Mu [(11, pm_upd (pm_ct K5 11) c ((c + 1 + L1.length : Nat) : Int))] K5) := lay5.muA (l := []) (a := 11) (f := pm_upd (pm_ct K5 11) c ((c + 1 + L1.length : Nat) : Int)) rfl rfl
                    refine m_iastore (u := []) (u' := [(11, pm_upd (pm_ct K5 11) c ((c + 1 + L1.length : Nat) : Int))]) (M := K5) lk_63_176 (lay5.ay (by decide) rfl) (by omega) (j := c) (by omega) rfl ?_
                    refine g_aload_n lk_63_177 rfl ?_
                    refine g_aload_n lk_63_178 rfl ?_
                    refine g_iload_n lk_63_179 rfl ?_
                    refine g_iconst lk_63_180 ?_
                    refine g_iadd lk_63_181 ?_
                    have fM : Fr [11] K5 (Mu [(11, pm_upd (pm_ct K5 11) c ((c + 1 + L1.length : Nat) : Int))] K5) := Fr.mu _ _ rfl
                    have F6 : NdF 8 M (Mu [(11, pm_upd (pm_ct K5 11) c ((c + 1 + L1.length : Nat) : Int))] K5) := (F4.trans F5).trans (Fr.nd3 (P := 8) fM (by omega))
                    have m3 : pm_ct (Mu [(11, pm_upd (pm_ct K5 11) c ((c + 1 + L1.length : Nat) : Int))] K5) 11 = pm_upd (pm_ct K5 11) c ((c + 1 + L1.length : Nat) : Int) := by rw [Mu_ct]; rfl
                    have m1 : pm_ct (Mu [(11, pm_upd (pm_ct K5 11) c ((c + 1 + L1.length : Nat) : Int))] K5) 9 = pm_ct K5 9 := fM.ct (by decide)
                    have m2 : pm_ct (Mu [(11, pm_upd (pm_ct K5 11) c ((c + 1 + L1.length : Nat) : Int))] K5) 10 = pm_ct K5 10 := fM.ct (by decide)
                    have g5 := ih (d + 2) 0 0 (Mu [(11, pm_upd (pm_ct K5 11) c ((c + 1 + L1.length : Nat) : Int))] K5) (dd + 1) (c + 1 + L1.length) c t1 (by omega) (by omega) (by omega) lay1 (F6.tc (by omega) hM) (Fr.tk3 (P := 8) fM (by omega) tk5) v1 (by rw [F6.c (by omega) (Or.inr rfl)]; exact hR) (by rw [F6.c (by omega) (Or.inr rfl)]; exact hC) (by rw [fM.ct (by decide)]; exact ct5) (by omega)
                    rw [k2] at g5
                    refine g_virtual (p := 2) (Qc := _) lk_63_182 rfl (Nat.le_of_ble_eq_true rfl) rfl rfl (lay1.on (by decide) rfl) (Nat.le_of_ble_eq_true rfl) (Nat.le_of_ble_eq_true rfl) (Nat.zero_le _) (Nat.zero_le _) g5 ?_
                    rintro _ K7 ⟨lay7, nf7, rfl, tk7, ct7, sg7, bl7, sv7⟩
                    refine g_ireturn lk_63_185 (fun _ => by omega) ?_
                    refine ⟨lay7, F6.trans nf7, rfl, tk7, ?_, ?_, ?_, (sv5.trans (fM.sv (by decide))).trans sv7⟩
                    · show pm_ct K7 8 3 = ((c + (L1 ++ L2).length.succ : Nat) : Int)
                      rw [List.length_append, show c + (L1.length + L2.length).succ = c + 1 + L1.length + L2.length by omega]
                      exact ct7
                    · rw [List.map_cons, List.map_append]
                      exact SgAt.join (P := 8) x1 x2 bl5 sg5 m1 m2 m3 (by rw [List.length_map]; exact bl7) (by rw [List.length_map]; exact sg7)
                    · exact ((x3.trans bl5 (by omega)).trans (Blw.put (P := 8) m1 m2 m3) (Nat.le_refl _)).trans bl7 (by omega)
                clear w1 w2 w3 w4 w5
                have hp' := hp
                rw [em] at hp'
                refine g_aload_n lk_63_0 rfl ?_
                refine m_getfield (u := []) (M := M) lk_63_1 rfl (lay.on (by decide) rfl) (v := 1) f10' ?_
                refine g_iconst lk_63_4 ?_
                refine g_icmp (t := 33) lk_63_5 rfl (by first | (unfold pm_inI; omega) | exact pm_and_in _ _ | exact pm_shr_in _ _ | exact pm_or_in _ _ | exact pm_xor_in _ _ | exact pm_shl_in _ _ | exact pm_cmp_in _ _ | exact pm_b8_in _ | (unfold pm_inI; split <;> omega)) (by first | (unfold pm_inI; omega) | exact pm_and_in _ _ | exact pm_shr_in _ _ | exact pm_or_in _ _ | exact pm_xor_in _ _ | exact pm_shl_in _ _ | exact pm_cmp_in _ _ | exact pm_b8_in _ | (unfold pm_inI; split <;> omega)) (fun h => absurd h (show ¬ (¬ (1 : Int) = (1 : Int)) by omega)) (fun _ => ?_)
                refine g_aload_n lk_63_8 rfl ?_
                refine m_getfield (u := []) (M := M) lk_63_9 rfl (lay.on (by decide) rfl) (v := 1) f13x ?_
                refine g_ldc lk_63_12 ?_
                refine g_icmp (t := 39) lk_63_14 rfl (by first | (unfold pm_inI; omega) | exact pm_and_in _ _ | exact pm_shr_in _ _ | exact pm_or_in _ _ | exact pm_xor_in _ _ | exact pm_shl_in _ _ | exact pm_cmp_in _ _ | exact pm_b8_in _ | (unfold pm_inI; split <;> omega)) (by first | (unfold pm_inI; omega) | exact pm_and_in _ _ | exact pm_shr_in _ _ | exact pm_or_in _ _ | exact pm_xor_in _ _ | exact pm_shl_in _ _ | exact pm_cmp_in _ _ | exact pm_b8_in _ | (unfold pm_inI; split <;> omega)) (fun h => absurd h (show ¬ ((1 : Int) = (239874 : Int)) by omega)) (fun _ => ?_)
                refine g_aload_n lk_63_17 rfl ?_
                refine m_getfield (u := []) (M := M) lk_63_18 rfl (lay.on (by decide) rfl) (v := 1) f13x ?_
                refine g_iconst lk_63_21 ?_
                refine g_icmp (t := 39) lk_63_22 rfl (by first | (unfold pm_inI; omega) | exact pm_and_in _ _ | exact pm_shr_in _ _ | exact pm_or_in _ _ | exact pm_xor_in _ _ | exact pm_shl_in _ _ | exact pm_cmp_in _ _ | exact pm_b8_in _ | (unfold pm_inI; split <;> omega)) (by first | (unfold pm_inI; omega) | exact pm_and_in _ _ | exact pm_shr_in _ _ | exact pm_or_in _ _ | exact pm_xor_in _ _ | exact pm_shl_in _ _ | exact pm_cmp_in _ _ | exact pm_b8_in _ | (unfold pm_inI; split <;> omega)) (fun _ => ?_) (fun h => absurd (show (1 : Int) = (1 : Int) by omega) h)
                refine g_iload_n lk_63_39 rfl ?_
                refine g_bipush lk_63_40 ?_
                refine g_icmp (t := 54) lk_63_42 rfl (by first | (unfold pm_inI; omega) | exact pm_and_in _ _ | exact pm_shr_in _ _ | exact pm_or_in _ _ | exact pm_xor_in _ _ | exact pm_shl_in _ _ | exact pm_cmp_in _ _ | exact pm_b8_in _ | (unfold pm_inI; split <;> omega)) (by first | (unfold pm_inI; omega) | exact pm_and_in _ _ | exact pm_shr_in _ _ | exact pm_or_in _ _ | exact pm_xor_in _ _ | exact pm_shl_in _ _ | exact pm_cmp_in _ _ | exact pm_b8_in _ | (unfold pm_inI; split <;> omega)) (fun h1 => ?_) (fun h1 => ?_)
                · replace h1 : 9 ≤ (dd : Int) := h1
                  omega
                · replace h1 : ¬ (9 ≤ (dd : Int)) := h1
                  refine g_aload_n lk_63_45 rfl ?_
                  refine m_getfield (u := []) (M := M) lk_63_46 rfl (lay.on (by decide) rfl) (v := (c : Int)) hc ?_
                  refine g_bipush lk_63_49 ?_
                  refine g_icmp (t := 60) lk_63_51 rfl (by first | (unfold pm_inI; omega) | exact pm_and_in _ _ | exact pm_shr_in _ _ | exact pm_or_in _ _ | exact pm_xor_in _ _ | exact pm_shl_in _ _ | exact pm_cmp_in _ _ | exact pm_b8_in _ | (unfold pm_inI; split <;> omega)) (by first | (unfold pm_inI; omega) | exact pm_and_in _ _ | exact pm_shr_in _ _ | exact pm_or_in _ _ | exact pm_xor_in _ _ | exact pm_shl_in _ _ | exact pm_cmp_in _ _ | exact pm_b8_in _ | (unfold pm_inI; split <;> omega)) (fun h2 => ?_) (fun h2 => ?_)
                  · replace h2 : (c : Int) < 31 := h2
                    refine g_aload_n lk_63_60 rfl ?_
                    refine m_getfield (u := []) (M := M) lk_63_61 rfl (lay.on (by decide) rfl) (v := 1) f13x ?_
                    refine g_ldc lk_63_64 ?_
                    refine g_icmp (t := 75) lk_63_66 rfl (by first | (unfold pm_inI; omega) | exact pm_and_in _ _ | exact pm_shr_in _ _ | exact pm_or_in _ _ | exact pm_xor_in _ _ | exact pm_shl_in _ _ | exact pm_cmp_in _ _ | exact pm_b8_in _ | (unfold pm_inI; split <;> omega)) (by first | (unfold pm_inI; omega) | exact pm_and_in _ _ | exact pm_shr_in _ _ | exact pm_or_in _ _ | exact pm_xor_in _ _ | exact pm_shl_in _ _ | exact pm_cmp_in _ _ | exact pm_b8_in _ | (unfold pm_inI; split <;> omega)) (fun _ => ?_) (fun h => absurd (show ¬ (1 : Int) = (239874 : Int) by omega) h)
                    refine g_aload_n lk_63_75 rfl ?_
                    refine m_getfield (u := []) (M := M) lk_63_76 rfl (lay.on (by decide) rfl) (v := 1) f13x ?_
                    refine g_iconst lk_63_79 ?_
                    refine g_icmp (t := 87) lk_63_80 rfl (by first | (unfold pm_inI; omega) | exact pm_and_in _ _ | exact pm_shr_in _ _ | exact pm_or_in _ _ | exact pm_xor_in _ _ | exact pm_shl_in _ _ | exact pm_cmp_in _ _ | exact pm_b8_in _ | (unfold pm_inI; split <;> omega)) (by first | (unfold pm_inI; omega) | exact pm_and_in _ _ | exact pm_shr_in _ _ | exact pm_or_in _ _ | exact pm_xor_in _ _ | exact pm_shl_in _ _ | exact pm_cmp_in _ _ | exact pm_b8_in _ | (unfold pm_inI; split <;> omega)) (fun h => absurd h (show ¬ (¬ (1 : Int) = (1 : Int)) by omega)) (fun _ => ?_)
                    refine g_iconst lk_63_83 ?_
                    refine g_goto (t := 88) lk_63_84 rfl ?_
                    refine g_istore_n (ls' := [(2, ((2 : Nat) : Int)), (2, ((8 : Nat) : Int)), (0, (dd : Int)), (0, 1), (9, 0), (9, 0)]) lk_63_88 rfl rfl ?_
                    refine g_aload_n lk_63_89 rfl ?_
                    refine g_virtual (p := 2) (Qc := _) lk_63_90 rfl (Nat.le_of_ble_eq_true rfl) rfl rfl (lay.on (by decide) rfl) (Nat.le_of_ble_eq_true rfl) (Nat.le_of_ble_eq_true rfl) (Nat.zero_le _) (Nat.zero_le _) (ad) ?_
                    rintro _ K1 ⟨rfl, lay1, rd1, tk1⟩
                    have f4 : pm_ct K1 4 1 = (R : Int) := (by rw [rd1.1.ct (by decide)]; exact hR)
                    have hc1 : pm_ct K1 8 3 = (c : Int) := (by rw [rd1.1.ct (by decide)]; exact hc)
                    show Wp _ 63 93 [(2, ((2 : Nat) : Int)), (2, ((8 : Nat) : Int)), (0, (dd : Int)), (0, 1), (9, 0), (9, 0)] [] K1 _ _ _
                    refine g_aload_n lk_63_93 rfl ?_
                    refine g_iload_n lk_63_94 rfl ?_
                    refine g_if (t := 108) lk_63_95 rfl (by first | (unfold pm_inI; omega) | exact pm_and_in _ _ | exact pm_shr_in _ _ | exact pm_or_in _ _ | exact pm_xor_in _ _ | exact pm_shl_in _ _ | exact pm_cmp_in _ _ | exact pm_b8_in _ | (unfold pm_inI; split <;> omega)) (fun h => absurd h (show ¬ ((1 : Int) = (0 : Int)) by omega)) (fun _ => ?_)
                    refine g_aload_n lk_63_98 rfl ?_
                    refine g_getfield lk_63_99 rfl (lay1.on (by decide) rfl) (v := ((4 : Nat) : Int)) (lay1.rf rfl) ?_
                    refine m_getfield (u := []) (M := K1) lk_63_102 rfl (lay1.on (by decide) rfl) (v := (R : Int)) f4 ?_
                    refine g_goto (t := 115) lk_63_105 rfl ?_
                    refine g_virtual (p := 2) (Qc := _) lk_63_115 rfl (Nat.le_of_ble_eq_true rfl) rfl rfl (lay1.on (by decide) rfl) (Nat.le_of_ble_eq_true rfl) (Nat.le_of_ble_eq_true rfl) (Nat.zero_le _) (Nat.zero_le _) (c_Reader_readSet (d := d + 1) (mc := 0) (ms := 0) lay1 (hM.rd rd1) tk1 u1 r6) ?_
                    rintro ρ2 K2 ⟨lay2, re2, o2⟩
                    obtain ⟨s1, s2, rfl, eK⟩ := set_inr hp' o2
                    rw [eK]
                    show Wp _ 63 118 [(2, ((2 : Nat) : Int)), (2, ((8 : Nat) : Int)), (0, (dd : Int)), (0, 1), (9, 0), (9, 0)] [(0, (s : Int))] K1 _ _ _
                    refine g_istore (ls' := [(2, ((2 : Nat) : Int)), (2, ((8 : Nat) : Int)), (0, (dd : Int)), (0, 1), (0, (s : Int)), (9, 0)]) lk_63_118 rfl rfl ?_
                    refine g_iload lk_63_120 rfl ?_
                    refine g_if (t := 127) lk_63_122 rfl (by first | (unfold pm_inI; omega) | exact pm_and_in _ _ | exact pm_shr_in _ _ | exact pm_or_in _ _ | exact pm_xor_in _ _ | exact pm_shl_in _ _ | exact pm_cmp_in _ _ | exact pm_b8_in _ | (unfold pm_inI; split <;> omega)) (fun h3 => ?_) (fun h3 => ?_)
                    · replace h3 : ¬ (s : Int) = 0 := h3
                      refine g_aload_n lk_63_127 rfl ?_
                      refine g_iload_n lk_63_128 rfl ?_
                      refine g_if (t := 136) lk_63_129 rfl (by first | (unfold pm_inI; omega) | exact pm_and_in _ _ | exact pm_shr_in _ _ | exact pm_or_in _ _ | exact pm_xor_in _ _ | exact pm_shl_in _ _ | exact pm_cmp_in _ _ | exact pm_b8_in _ | (unfold pm_inI; split <;> omega)) (fun h => absurd h (show ¬ ((1 : Int) = (0 : Int)) by omega)) (fun _ => ?_)
                      refine g_iconst lk_63_132 ?_
                      refine g_goto (t := 137) lk_63_133 rfl ?_
                      refine g_iload lk_63_137 rfl ?_
                      refine g_virtual (p := 8) (Qc := _) lk_63_139 rfl (Nat.le_of_ble_eq_true rfl) rfl rfl (lay1.on (by decide) rfl) (Nat.le_of_ble_eq_true rfl) (Nat.le_of_ble_eq_true rfl) (Nat.zero_le _) (Nat.zero_le _) (c_Nodes_addR0 (d := d + 2) (mc := 0) (ms := 0) (x := 1) (y := s) lay1 hc1 c30) ?_
                      rintro _ K3 ⟨rfl, lay3, ax⟩
                      have tc3 := (ax.nd (by omega)).tc (by omega) (hM.rd rd1)
                      have ad3 := c_Reader_advance (d := d + 1) (mc := 0) (ms := 0) lay3 tc3 (ax.tk (by omega) tk1).2.2.2.1 u1.2.2.1
                      show Wp _ 63 142 [(2, ((2 : Nat) : Int)), (2, ((8 : Nat) : Int)), (0, (dd : Int)), (0, 1), (0, (s : Int)), (9, 0)] [(0, (c : Int))] K3 _ _ _
                      refine g_istore (ls' := [(2, ((2 : Nat) : Int)), (2, ((8 : Nat) : Int)), (0, (dd : Int)), (0, 1), (0, (s : Int)), (0, (c : Int))]) lk_63_142 rfl rfl ?_
                      refine g_aload_n lk_63_144 rfl ?_
                      refine g_virtual (p := 2) (Qc := _) lk_63_145 rfl (Nat.le_of_ble_eq_true rfl) rfl rfl (lay3.on (by decide) rfl) (Nat.le_of_ble_eq_true rfl) (Nat.le_of_ble_eq_true rfl) (Nat.zero_le _) (Nat.zero_le _) (ad3) ?_
                      rintro _ K4 ⟨rfl, lay4, rd4, tk4⟩
                      have F4 : NdF 8 M K4 := (rd1.re.nd.trans (ax.nd (by omega))).trans rd4.re.nd
                      have x3 : Blw M K4 8 c := ((rd1.blw (by omega)).trans ax.blw (Nat.le_refl _)).trans (rd4.blw (c := c) (by omega)) (Nat.le_refl _)
                      have x1 : pm_ct K4 9 c = (1 : Int) := (by rw [rd4.1.ct (by decide)]; exact ax.at.1)
                      have x2 : pm_ct K4 10 c = (s : Int) := (by rw [rd4.1.ct (by decide)]; exact ax.at.2.1)
                      have sv4 : Sv M K4 := (rd1.sv.trans (ax.1.sv (by decide))).trans rd4.sv
                      have g4 := ih (d + 2) 0 0 K4 (dd + 1) (c + 1) c _ (by omega) (by omega) (by omega) lay4 (tc3.rd rd4) tk4 u2 (by rw [F4.c (by omega) (Or.inr rfl)]; exact hR) (by rw [F4.c (by omega) (Or.inr rfl)]; exact hC) (by rw [rd4.1.ct (by decide)]; exact ax.2.1) (by omega)
                      rw [k1] at g4
                      show Wp _ 63 148 [(2, ((2 : Nat) : Int)), (2, ((8 : Nat) : Int)), (0, (dd : Int)), (0, 1), (0, (s : Int)), (0, (c : Int))] [] K4 _ _ _
                      refine g_iload lk_63_148 rfl ?_
                      refine g_if (t := 164) lk_63_150 rfl (by first | (unfold pm_inI; omega) | exact pm_and_in _ _ | exact pm_shr_in _ _ | exact pm_or_in _ _ | exact pm_xor_in _ _ | exact pm_shl_in _ _ | exact pm_cmp_in _ _ | exact pm_b8_in _ | (unfold pm_inI; split <;> omega)) (fun h4 => ?_) (fun h4 => ?_)
                      · replace h4 : (c : Int) < 0 := h4
                        omega
                      · replace h4 : ¬ ((c : Int) < 0) := h4
                        refine g_aload_n lk_63_153 rfl ?_
                        refine g_aload_n lk_63_154 rfl ?_
                        refine g_iload_n lk_63_155 rfl ?_
                        refine g_iconst lk_63_156 ?_
                        refine g_iadd lk_63_157 ?_
                        refine g_virtual (p := 2) (Qc := _) lk_63_158 rfl (Nat.le_of_ble_eq_true rfl) rfl rfl (lay4.on (by decide) rfl) (Nat.le_of_ble_eq_true rfl) (Nat.le_of_ble_eq_true rfl) (Nat.zero_le _) (Nat.zero_le _) (g4) ?_
                        rintro _ K5 ⟨lay5, nf5, rfl, tk5, ct5, sg5, bl5, sv5⟩
                        show Wp _ 63 161 [(2, ((2 : Nat) : Int)), (2, ((8 : Nat) : Int)), (0, (dd : Int)), (0, 1), (0, (s : Int)), (0, (c : Int))] [(0, 1)] K5 _ _ _
                        refine g_if (t := 166) lk_63_161 rfl (by first | (unfold pm_inI; omega) | exact pm_and_in _ _ | exact pm_shr_in _ _ | exact pm_or_in _ _ | exact pm_xor_in _ _ | exact pm_shl_in _ _ | exact pm_cmp_in _ _ | exact pm_b8_in _ | (unfold pm_inI; split <;> omega)) (fun _ => ?_) (fun h => absurd (show ¬ (1 : Int) = (0 : Int) by omega) h)
                        exact step K4 K5 lay5 F4 nf5 x1 x2 x3 tk5 ct5 sg5 bl5 (sv4.trans sv5)
                    · replace h3 : ¬ (¬ (s : Int) = 0) := h3
                      refine g_iconst lk_63_125 ?_
                      refine g_ireturn lk_63_126 (fun _ => by omega) ?_
                      omega
                  · replace h2 : ¬ ((c : Int) < 31) := h2
                    omega
          · have y2 : twd ch t = wdB := by
              rcases a.2 with e | e | e
              · exact absurd e g
              · exact absurd e y
              · exact e
            have em : (if twd ch t = wdA then R else C) = C := if_neg y
            have ex : (if twd ch t = wdA then 1 else 2) = 2 := if_neg y
            have f13x : pm_ct M 2 13 = 2 := by rw [f13']; exact w2.mpr y2
            cases hp : pSet ch (if twd ch t = wdA then R else C) (lxt ch n t.2.2) with
            | inl e =>
              rw [pN_nd0 a b g hp]
              rw [em] at hp
              clear ih w1 w2 w3 w4 w5
              refine g_aload_n lk_63_0 rfl ?_
              refine m_getfield (u := []) (M := M) lk_63_1 rfl (lay.on (by decide) rfl) (v := 1) f10' ?_
              refine g_iconst lk_63_4 ?_
              refine g_icmp (t := 33) lk_63_5 rfl (by first | (unfold pm_inI; omega) | exact pm_and_in _ _ | exact pm_shr_in _ _ | exact pm_or_in _ _ | exact pm_xor_in _ _ | exact pm_shl_in _ _ | exact pm_cmp_in _ _ | exact pm_b8_in _ | (unfold pm_inI; split <;> omega)) (by first | (unfold pm_inI; omega) | exact pm_and_in _ _ | exact pm_shr_in _ _ | exact pm_or_in _ _ | exact pm_xor_in _ _ | exact pm_shl_in _ _ | exact pm_cmp_in _ _ | exact pm_b8_in _ | (unfold pm_inI; split <;> omega)) (fun h => absurd h (show ¬ (¬ (1 : Int) = (1 : Int)) by omega)) (fun _ => ?_)
              refine g_aload_n lk_63_8 rfl ?_
              refine m_getfield (u := []) (M := M) lk_63_9 rfl (lay.on (by decide) rfl) (v := 2) f13x ?_
              refine g_ldc lk_63_12 ?_
              refine g_icmp (t := 39) lk_63_14 rfl (by first | (unfold pm_inI; omega) | exact pm_and_in _ _ | exact pm_shr_in _ _ | exact pm_or_in _ _ | exact pm_xor_in _ _ | exact pm_shl_in _ _ | exact pm_cmp_in _ _ | exact pm_b8_in _ | (unfold pm_inI; split <;> omega)) (by first | (unfold pm_inI; omega) | exact pm_and_in _ _ | exact pm_shr_in _ _ | exact pm_or_in _ _ | exact pm_xor_in _ _ | exact pm_shl_in _ _ | exact pm_cmp_in _ _ | exact pm_b8_in _ | (unfold pm_inI; split <;> omega)) (fun h => absurd h (show ¬ ((2 : Int) = (239874 : Int)) by omega)) (fun _ => ?_)
              refine g_aload_n lk_63_17 rfl ?_
              refine m_getfield (u := []) (M := M) lk_63_18 rfl (lay.on (by decide) rfl) (v := 2) f13x ?_
              refine g_iconst lk_63_21 ?_
              refine g_icmp (t := 39) lk_63_22 rfl (by first | (unfold pm_inI; omega) | exact pm_and_in _ _ | exact pm_shr_in _ _ | exact pm_or_in _ _ | exact pm_xor_in _ _ | exact pm_shl_in _ _ | exact pm_cmp_in _ _ | exact pm_b8_in _ | (unfold pm_inI; split <;> omega)) (by first | (unfold pm_inI; omega) | exact pm_and_in _ _ | exact pm_shr_in _ _ | exact pm_or_in _ _ | exact pm_xor_in _ _ | exact pm_shl_in _ _ | exact pm_cmp_in _ _ | exact pm_b8_in _ | (unfold pm_inI; split <;> omega)) (fun h => absurd h (show ¬ ((2 : Int) = (1 : Int)) by omega)) (fun _ => ?_)
              refine g_aload_n lk_63_25 rfl ?_
              refine m_getfield (u := []) (M := M) lk_63_26 rfl (lay.on (by decide) rfl) (v := 2) f13x ?_
              refine g_iconst lk_63_29 ?_
              refine g_icmp (t := 39) lk_63_30 rfl (by first | (unfold pm_inI; omega) | exact pm_and_in _ _ | exact pm_shr_in _ _ | exact pm_or_in _ _ | exact pm_xor_in _ _ | exact pm_shl_in _ _ | exact pm_cmp_in _ _ | exact pm_b8_in _ | (unfold pm_inI; split <;> omega)) (by first | (unfold pm_inI; omega) | exact pm_and_in _ _ | exact pm_shr_in _ _ | exact pm_or_in _ _ | exact pm_xor_in _ _ | exact pm_shl_in _ _ | exact pm_cmp_in _ _ | exact pm_b8_in _ | (unfold pm_inI; split <;> omega)) (fun _ => ?_) (fun h => absurd (show (2 : Int) = (2 : Int) by omega) h)
              refine g_iload_n lk_63_39 rfl ?_
              refine g_bipush lk_63_40 ?_
              refine g_icmp (t := 54) lk_63_42 rfl (by first | (unfold pm_inI; omega) | exact pm_and_in _ _ | exact pm_shr_in _ _ | exact pm_or_in _ _ | exact pm_xor_in _ _ | exact pm_shl_in _ _ | exact pm_cmp_in _ _ | exact pm_b8_in _ | (unfold pm_inI; split <;> omega)) (by first | (unfold pm_inI; omega) | exact pm_and_in _ _ | exact pm_shr_in _ _ | exact pm_or_in _ _ | exact pm_xor_in _ _ | exact pm_shl_in _ _ | exact pm_cmp_in _ _ | exact pm_b8_in _ | (unfold pm_inI; split <;> omega)) (fun h1 => ?_) (fun h1 => ?_)
              · replace h1 : 9 ≤ (dd : Int) := h1
                omega
              · replace h1 : ¬ (9 ≤ (dd : Int)) := h1
                refine g_aload_n lk_63_45 rfl ?_
                refine m_getfield (u := []) (M := M) lk_63_46 rfl (lay.on (by decide) rfl) (v := (c : Int)) hc ?_
                refine g_bipush lk_63_49 ?_
                refine g_icmp (t := 60) lk_63_51 rfl (by first | (unfold pm_inI; omega) | exact pm_and_in _ _ | exact pm_shr_in _ _ | exact pm_or_in _ _ | exact pm_xor_in _ _ | exact pm_shl_in _ _ | exact pm_cmp_in _ _ | exact pm_b8_in _ | (unfold pm_inI; split <;> omega)) (by first | (unfold pm_inI; omega) | exact pm_and_in _ _ | exact pm_shr_in _ _ | exact pm_or_in _ _ | exact pm_xor_in _ _ | exact pm_shl_in _ _ | exact pm_cmp_in _ _ | exact pm_b8_in _ | (unfold pm_inI; split <;> omega)) (fun h2 => ?_) (fun h2 => ?_)
                · replace h2 : (c : Int) < 31 := h2
                  refine g_aload_n lk_63_60 rfl ?_
                  refine m_getfield (u := []) (M := M) lk_63_61 rfl (lay.on (by decide) rfl) (v := 2) f13x ?_
                  refine g_ldc lk_63_64 ?_
                  refine g_icmp (t := 75) lk_63_66 rfl (by first | (unfold pm_inI; omega) | exact pm_and_in _ _ | exact pm_shr_in _ _ | exact pm_or_in _ _ | exact pm_xor_in _ _ | exact pm_shl_in _ _ | exact pm_cmp_in _ _ | exact pm_b8_in _ | (unfold pm_inI; split <;> omega)) (by first | (unfold pm_inI; omega) | exact pm_and_in _ _ | exact pm_shr_in _ _ | exact pm_or_in _ _ | exact pm_xor_in _ _ | exact pm_shl_in _ _ | exact pm_cmp_in _ _ | exact pm_b8_in _ | (unfold pm_inI; split <;> omega)) (fun _ => ?_) (fun h => absurd (show ¬ (2 : Int) = (239874 : Int) by omega) h)
                  refine g_aload_n lk_63_75 rfl ?_
                  refine m_getfield (u := []) (M := M) lk_63_76 rfl (lay.on (by decide) rfl) (v := 2) f13x ?_
                  refine g_iconst lk_63_79 ?_
                  refine g_icmp (t := 87) lk_63_80 rfl (by first | (unfold pm_inI; omega) | exact pm_and_in _ _ | exact pm_shr_in _ _ | exact pm_or_in _ _ | exact pm_xor_in _ _ | exact pm_shl_in _ _ | exact pm_cmp_in _ _ | exact pm_b8_in _ | (unfold pm_inI; split <;> omega)) (by first | (unfold pm_inI; omega) | exact pm_and_in _ _ | exact pm_shr_in _ _ | exact pm_or_in _ _ | exact pm_xor_in _ _ | exact pm_shl_in _ _ | exact pm_cmp_in _ _ | exact pm_b8_in _ | (unfold pm_inI; split <;> omega)) (fun _ => ?_) (fun h => absurd (show ¬ (2 : Int) = (1 : Int) by omega) h)
                  refine g_iconst lk_63_87 ?_
                  refine g_istore_n (ls' := [(2, ((2 : Nat) : Int)), (2, ((8 : Nat) : Int)), (0, (dd : Int)), (0, 0), (9, 0), (9, 0)]) lk_63_88 rfl rfl ?_
                  refine g_aload_n lk_63_89 rfl ?_
                  refine g_virtual (p := 2) (Qc := _) lk_63_90 rfl (Nat.le_of_ble_eq_true rfl) rfl rfl (lay.on (by decide) rfl) (Nat.le_of_ble_eq_true rfl) (Nat.le_of_ble_eq_true rfl) (Nat.zero_le _) (Nat.zero_le _) (ad) ?_
                  rintro _ K1 ⟨rfl, lay1, rd1, tk1⟩
                  have f4 : pm_ct K1 4 2 = (C : Int) := (by rw [rd1.1.ct (by decide)]; exact hC)
                  have hc1 : pm_ct K1 8 3 = (c : Int) := (by rw [rd1.1.ct (by decide)]; exact hc)
                  show Wp _ 63 93 [(2, ((2 : Nat) : Int)), (2, ((8 : Nat) : Int)), (0, (dd : Int)), (0, 0), (9, 0), (9, 0)] [] K1 _ _ _
                  refine g_aload_n lk_63_93 rfl ?_
                  refine g_iload_n lk_63_94 rfl ?_
                  refine g_if (t := 108) lk_63_95 rfl (by first | (unfold pm_inI; omega) | exact pm_and_in _ _ | exact pm_shr_in _ _ | exact pm_or_in _ _ | exact pm_xor_in _ _ | exact pm_shl_in _ _ | exact pm_cmp_in _ _ | exact pm_b8_in _ | (unfold pm_inI; split <;> omega)) (fun _ => ?_) (fun h => absurd (show (0 : Int) = (0 : Int) by omega) h)
                  refine g_aload_n lk_63_108 rfl ?_
                  refine g_getfield lk_63_109 rfl (lay1.on (by decide) rfl) (v := ((4 : Nat) : Int)) (lay1.rf rfl) ?_
                  refine m_getfield (u := []) (M := K1) lk_63_112 rfl (lay1.on (by decide) rfl) (v := (C : Int)) f4 ?_
                  refine g_virtual (p := 2) (Qc := _) lk_63_115 rfl (Nat.le_of_ble_eq_true rfl) rfl rfl (lay1.on (by decide) rfl) (Nat.le_of_ble_eq_true rfl) (Nat.le_of_ble_eq_true rfl) (Nat.zero_le _) (Nat.zero_le _) (c_Reader_readSet (d := d + 1) (mc := 0) (ms := 0) lay1 (hM.rd rd1) tk1 u1 c6) ?_
                  rintro ρ2 K2 ⟨lay2, re2, o2⟩
                  obtain ⟨rfl, ft2⟩ := set_inl hp o2
                  show Wp _ 63 118 [(2, ((2 : Nat) : Int)), (2, ((8 : Nat) : Int)), (0, (dd : Int)), (0, 0), (9, 0), (9, 0)] [(0, 0)] K2 _ _ _
                  refine g_istore (ls' := [(2, ((2 : Nat) : Int)), (2, ((8 : Nat) : Int)), (0, (dd : Int)), (0, 0), (0, 0), (9, 0)]) lk_63_118 rfl rfl ?_
                  refine g_iload lk_63_120 rfl ?_
                  refine g_if (t := 127) lk_63_122 rfl (by first | (unfold pm_inI; omega) | exact pm_and_in _ _ | exact pm_shr_in _ _ | exact pm_or_in _ _ | exact pm_xor_in _ _ | exact pm_shl_in _ _ | exact pm_cmp_in _ _ | exact pm_b8_in _ | (unfold pm_inI; split <;> omega)) (fun h => absurd h (show ¬ (¬ (0 : Int) = (0 : Int)) by omega)) (fun _ => ?_)
                  refine g_iconst lk_63_125 ?_
                  refine g_ireturn lk_63_126 (fun _ => by omega) ?_
                  exact ⟨lay2, rd1.re.nd.trans re2.nd, rfl, ft2⟩
                · replace h2 : ¬ ((c : Int) < 31) := h2
                  omega
            | inr s =>
              cases k1 : pN ch n R C f (dd + 1) (c + 1) c (lxt ch n (lxt ch n t.2.2).2.2) with
              | inl e =>
                rw [pN_nd1 a b g hp k1]
                rw [em] at hp
                clear w1 w2 w3 w4 w5
                refine g_aload_n lk_63_0 rfl ?_
                refine m_getfield (u := []) (M := M) lk_63_1 rfl (lay.on (by decide) rfl) (v := 1) f10' ?_
                refine g_iconst lk_63_4 ?_
                refine g_icmp (t := 33) lk_63_5 rfl (by first | (unfold pm_inI; omega) | exact pm_and_in _ _ | exact pm_shr_in _ _ | exact pm_or_in _ _ | exact pm_xor_in _ _ | exact pm_shl_in _ _ | exact pm_cmp_in _ _ | exact pm_b8_in _ | (unfold pm_inI; split <;> omega)) (by first | (unfold pm_inI; omega) | exact pm_and_in _ _ | exact pm_shr_in _ _ | exact pm_or_in _ _ | exact pm_xor_in _ _ | exact pm_shl_in _ _ | exact pm_cmp_in _ _ | exact pm_b8_in _ | (unfold pm_inI; split <;> omega)) (fun h => absurd h (show ¬ (¬ (1 : Int) = (1 : Int)) by omega)) (fun _ => ?_)
                refine g_aload_n lk_63_8 rfl ?_
                refine m_getfield (u := []) (M := M) lk_63_9 rfl (lay.on (by decide) rfl) (v := 2) f13x ?_
                refine g_ldc lk_63_12 ?_
                refine g_icmp (t := 39) lk_63_14 rfl (by first | (unfold pm_inI; omega) | exact pm_and_in _ _ | exact pm_shr_in _ _ | exact pm_or_in _ _ | exact pm_xor_in _ _ | exact pm_shl_in _ _ | exact pm_cmp_in _ _ | exact pm_b8_in _ | (unfold pm_inI; split <;> omega)) (by first | (unfold pm_inI; omega) | exact pm_and_in _ _ | exact pm_shr_in _ _ | exact pm_or_in _ _ | exact pm_xor_in _ _ | exact pm_shl_in _ _ | exact pm_cmp_in _ _ | exact pm_b8_in _ | (unfold pm_inI; split <;> omega)) (fun h => absurd h (show ¬ ((2 : Int) = (239874 : Int)) by omega)) (fun _ => ?_)
                refine g_aload_n lk_63_17 rfl ?_
                refine m_getfield (u := []) (M := M) lk_63_18 rfl (lay.on (by decide) rfl) (v := 2) f13x ?_
                refine g_iconst lk_63_21 ?_
                refine g_icmp (t := 39) lk_63_22 rfl (by first | (unfold pm_inI; omega) | exact pm_and_in _ _ | exact pm_shr_in _ _ | exact pm_or_in _ _ | exact pm_xor_in _ _ | exact pm_shl_in _ _ | exact pm_cmp_in _ _ | exact pm_b8_in _ | (unfold pm_inI; split <;> omega)) (by first | (unfold pm_inI; omega) | exact pm_and_in _ _ | exact pm_shr_in _ _ | exact pm_or_in _ _ | exact pm_xor_in _ _ | exact pm_shl_in _ _ | exact pm_cmp_in _ _ | exact pm_b8_in _ | (unfold pm_inI; split <;> omega)) (fun h => absurd h (show ¬ ((2 : Int) = (1 : Int)) by omega)) (fun _ => ?_)
                refine g_aload_n lk_63_25 rfl ?_
                refine m_getfield (u := []) (M := M) lk_63_26 rfl (lay.on (by decide) rfl) (v := 2) f13x ?_
                refine g_iconst lk_63_29 ?_
                refine g_icmp (t := 39) lk_63_30 rfl (by first | (unfold pm_inI; omega) | exact pm_and_in _ _ | exact pm_shr_in _ _ | exact pm_or_in _ _ | exact pm_xor_in _ _ | exact pm_shl_in _ _ | exact pm_cmp_in _ _ | exact pm_b8_in _ | (unfold pm_inI; split <;> omega)) (by first | (unfold pm_inI; omega) | exact pm_and_in _ _ | exact pm_shr_in _ _ | exact pm_or_in _ _ | exact pm_xor_in _ _ | exact pm_shl_in _ _ | exact pm_cmp_in _ _ | exact pm_b8_in _ | (unfold pm_inI; split <;> omega)) (fun _ => ?_) (fun h => absurd (show (2 : Int) = (2 : Int) by omega) h)
                refine g_iload_n lk_63_39 rfl ?_
                refine g_bipush lk_63_40 ?_
                refine g_icmp (t := 54) lk_63_42 rfl (by first | (unfold pm_inI; omega) | exact pm_and_in _ _ | exact pm_shr_in _ _ | exact pm_or_in _ _ | exact pm_xor_in _ _ | exact pm_shl_in _ _ | exact pm_cmp_in _ _ | exact pm_b8_in _ | (unfold pm_inI; split <;> omega)) (by first | (unfold pm_inI; omega) | exact pm_and_in _ _ | exact pm_shr_in _ _ | exact pm_or_in _ _ | exact pm_xor_in _ _ | exact pm_shl_in _ _ | exact pm_cmp_in _ _ | exact pm_b8_in _ | (unfold pm_inI; split <;> omega)) (fun h1 => ?_) (fun h1 => ?_)
                · replace h1 : 9 ≤ (dd : Int) := h1
                  omega
                · replace h1 : ¬ (9 ≤ (dd : Int)) := h1
                  refine g_aload_n lk_63_45 rfl ?_
                  refine m_getfield (u := []) (M := M) lk_63_46 rfl (lay.on (by decide) rfl) (v := (c : Int)) hc ?_
                  refine g_bipush lk_63_49 ?_
                  refine g_icmp (t := 60) lk_63_51 rfl (by first | (unfold pm_inI; omega) | exact pm_and_in _ _ | exact pm_shr_in _ _ | exact pm_or_in _ _ | exact pm_xor_in _ _ | exact pm_shl_in _ _ | exact pm_cmp_in _ _ | exact pm_b8_in _ | (unfold pm_inI; split <;> omega)) (by first | (unfold pm_inI; omega) | exact pm_and_in _ _ | exact pm_shr_in _ _ | exact pm_or_in _ _ | exact pm_xor_in _ _ | exact pm_shl_in _ _ | exact pm_cmp_in _ _ | exact pm_b8_in _ | (unfold pm_inI; split <;> omega)) (fun h2 => ?_) (fun h2 => ?_)
                  · replace h2 : (c : Int) < 31 := h2
                    refine g_aload_n lk_63_60 rfl ?_
                    refine m_getfield (u := []) (M := M) lk_63_61 rfl (lay.on (by decide) rfl) (v := 2) f13x ?_
                    refine g_ldc lk_63_64 ?_
                    refine g_icmp (t := 75) lk_63_66 rfl (by first | (unfold pm_inI; omega) | exact pm_and_in _ _ | exact pm_shr_in _ _ | exact pm_or_in _ _ | exact pm_xor_in _ _ | exact pm_shl_in _ _ | exact pm_cmp_in _ _ | exact pm_b8_in _ | (unfold pm_inI; split <;> omega)) (by first | (unfold pm_inI; omega) | exact pm_and_in _ _ | exact pm_shr_in _ _ | exact pm_or_in _ _ | exact pm_xor_in _ _ | exact pm_shl_in _ _ | exact pm_cmp_in _ _ | exact pm_b8_in _ | (unfold pm_inI; split <;> omega)) (fun _ => ?_) (fun h => absurd (show ¬ (2 : Int) = (239874 : Int) by omega) h)
                    refine g_aload_n lk_63_75 rfl ?_
                    refine m_getfield (u := []) (M := M) lk_63_76 rfl (lay.on (by decide) rfl) (v := 2) f13x ?_
                    refine g_iconst lk_63_79 ?_
                    refine g_icmp (t := 87) lk_63_80 rfl (by first | (unfold pm_inI; omega) | exact pm_and_in _ _ | exact pm_shr_in _ _ | exact pm_or_in _ _ | exact pm_xor_in _ _ | exact pm_shl_in _ _ | exact pm_cmp_in _ _ | exact pm_b8_in _ | (unfold pm_inI; split <;> omega)) (by first | (unfold pm_inI; omega) | exact pm_and_in _ _ | exact pm_shr_in _ _ | exact pm_or_in _ _ | exact pm_xor_in _ _ | exact pm_shl_in _ _ | exact pm_cmp_in _ _ | exact pm_b8_in _ | (unfold pm_inI; split <;> omega)) (fun _ => ?_) (fun h => absurd (show ¬ (2 : Int) = (1 : Int) by omega) h)
                    refine g_iconst lk_63_87 ?_
                    refine g_istore_n (ls' := [(2, ((2 : Nat) : Int)), (2, ((8 : Nat) : Int)), (0, (dd : Int)), (0, 0), (9, 0), (9, 0)]) lk_63_88 rfl rfl ?_
                    refine g_aload_n lk_63_89 rfl ?_
                    refine g_virtual (p := 2) (Qc := _) lk_63_90 rfl (Nat.le_of_ble_eq_true rfl) rfl rfl (lay.on (by decide) rfl) (Nat.le_of_ble_eq_true rfl) (Nat.le_of_ble_eq_true rfl) (Nat.zero_le _) (Nat.zero_le _) (ad) ?_
                    rintro _ K1 ⟨rfl, lay1, rd1, tk1⟩
                    have f4 : pm_ct K1 4 2 = (C : Int) := (by rw [rd1.1.ct (by decide)]; exact hC)
                    have hc1 : pm_ct K1 8 3 = (c : Int) := (by rw [rd1.1.ct (by decide)]; exact hc)
                    show Wp _ 63 93 [(2, ((2 : Nat) : Int)), (2, ((8 : Nat) : Int)), (0, (dd : Int)), (0, 0), (9, 0), (9, 0)] [] K1 _ _ _
                    refine g_aload_n lk_63_93 rfl ?_
                    refine g_iload_n lk_63_94 rfl ?_
                    refine g_if (t := 108) lk_63_95 rfl (by first | (unfold pm_inI; omega) | exact pm_and_in _ _ | exact pm_shr_in _ _ | exact pm_or_in _ _ | exact pm_xor_in _ _ | exact pm_shl_in _ _ | exact pm_cmp_in _ _ | exact pm_b8_in _ | (unfold pm_inI; split <;> omega)) (fun _ => ?_) (fun h => absurd (show (0 : Int) = (0 : Int) by omega) h)
                    refine g_aload_n lk_63_108 rfl ?_
                    refine g_getfield lk_63_109 rfl (lay1.on (by decide) rfl) (v := ((4 : Nat) : Int)) (lay1.rf rfl) ?_
                    refine m_getfield (u := []) (M := K1) lk_63_112 rfl (lay1.on (by decide) rfl) (v := (C : Int)) f4 ?_
                    refine g_virtual (p := 2) (Qc := _) lk_63_115 rfl (Nat.le_of_ble_eq_true rfl) rfl rfl (lay1.on (by decide) rfl) (Nat.le_of_ble_eq_true rfl) (Nat.le_of_ble_eq_true rfl) (Nat.zero_le _) (Nat.zero_le _) (c_Reader_readSet (d := d + 1) (mc := 0) (ms := 0) lay1 (hM.rd rd1) tk1 u1 c6) ?_
                    rintro ρ2 K2 ⟨lay2, re2, o2⟩
                    obtain ⟨s1, s2, rfl, eK⟩ := set_inr hp o2
                    rw [eK]
                    show Wp _ 63 118 [(2, ((2 : Nat) : Int)), (2, ((8 : Nat) : Int)), (0, (dd : Int)), (0, 0), (9, 0), (9, 0)] [(0, (s : Int))] K1 _ _ _
                    refine g_istore (ls' := [(2, ((2 : Nat) : Int)), (2, ((8 : Nat) : Int)), (0, (dd : Int)), (0, 0), (0, (s : Int)), (9, 0)]) lk_63_118 rfl rfl ?_
                    refine g_iload lk_63_120 rfl ?_
                    refine g_if (t := 127) lk_63_122 rfl (by first | (unfold pm_inI; omega) | exact pm_and_in _ _ | exact pm_shr_in _ _ | exact pm_or_in _ _ | exact pm_xor_in _ _ | exact pm_shl_in _ _ | exact pm_cmp_in _ _ | exact pm_b8_in _ | (unfold pm_inI; split <;> omega)) (fun h3 => ?_) (fun h3 => ?_)
                    · replace h3 : ¬ (s : Int) = 0 := h3
                      refine g_aload_n lk_63_127 rfl ?_
                      refine g_iload_n lk_63_128 rfl ?_
                      refine g_if (t := 136) lk_63_129 rfl (by first | (unfold pm_inI; omega) | exact pm_and_in _ _ | exact pm_shr_in _ _ | exact pm_or_in _ _ | exact pm_xor_in _ _ | exact pm_shl_in _ _ | exact pm_cmp_in _ _ | exact pm_b8_in _ | (unfold pm_inI; split <;> omega)) (fun _ => ?_) (fun h => absurd (show (0 : Int) = (0 : Int) by omega) h)
                      refine g_iconst lk_63_136 ?_
                      refine g_iload lk_63_137 rfl ?_
                      refine g_virtual (p := 8) (Qc := _) lk_63_139 rfl (Nat.le_of_ble_eq_true rfl) rfl rfl (lay1.on (by decide) rfl) (Nat.le_of_ble_eq_true rfl) (Nat.le_of_ble_eq_true rfl) (Nat.zero_le _) (Nat.zero_le _) (c_Nodes_addR0 (d := d + 2) (mc := 0) (ms := 0) (x := 2) (y := s) lay1 hc1 c30) ?_
                      rintro _ K3 ⟨rfl, lay3, ax⟩
                      have tc3 := (ax.nd (by omega)).tc (by omega) (hM.rd rd1)
                      have ad3 := c_Reader_advance (d := d + 1) (mc := 0) (ms := 0) lay3 tc3 (ax.tk (by omega) tk1).2.2.2.1 u1.2.2.1
                      show Wp _ 63 142 [(2, ((2 : Nat) : Int)), (2, ((8 : Nat) : Int)), (0, (dd : Int)), (0, 0), (0, (s : Int)), (9, 0)] [(0, (c : Int))] K3 _ _ _
                      refine g_istore (ls' := [(2, ((2 : Nat) : Int)), (2, ((8 : Nat) : Int)), (0, (dd : Int)), (0, 0), (0, (s : Int)), (0, (c : Int))]) lk_63_142 rfl rfl ?_
                      refine g_aload_n lk_63_144 rfl ?_
                      refine g_virtual (p := 2) (Qc := _) lk_63_145 rfl (Nat.le_of_ble_eq_true rfl) rfl rfl (lay3.on (by decide) rfl) (Nat.le_of_ble_eq_true rfl) (Nat.le_of_ble_eq_true rfl) (Nat.zero_le _) (Nat.zero_le _) (ad3) ?_
                      rintro _ K4 ⟨rfl, lay4, rd4, tk4⟩
                      have F4 : NdF 8 M K4 := (rd1.re.nd.trans (ax.nd (by omega))).trans rd4.re.nd
                      have x3 : Blw M K4 8 c := ((rd1.blw (by omega)).trans ax.blw (Nat.le_refl _)).trans (rd4.blw (c := c) (by omega)) (Nat.le_refl _)
                      have x1 : pm_ct K4 9 c = (2 : Int) := (by rw [rd4.1.ct (by decide)]; exact ax.at.1)
                      have x2 : pm_ct K4 10 c = (s : Int) := (by rw [rd4.1.ct (by decide)]; exact ax.at.2.1)
                      have sv4 : Sv M K4 := (rd1.sv.trans (ax.1.sv (by decide))).trans rd4.sv
                      have g4 := ih (d + 2) 0 0 K4 (dd + 1) (c + 1) c _ (by omega) (by omega) (by omega) lay4 (tc3.rd rd4) tk4 u2 (by rw [F4.c (by omega) (Or.inr rfl)]; exact hR) (by rw [F4.c (by omega) (Or.inr rfl)]; exact hC) (by rw [rd4.1.ct (by decide)]; exact ax.2.1) (by omega)
                      rw [k1] at g4
                      show Wp _ 63 148 [(2, ((2 : Nat) : Int)), (2, ((8 : Nat) : Int)), (0, (dd : Int)), (0, 0), (0, (s : Int)), (0, (c : Int))] [] K4 _ _ _
                      refine g_iload lk_63_148 rfl ?_
                      refine g_if (t := 164) lk_63_150 rfl (by first | (unfold pm_inI; omega) | exact pm_and_in _ _ | exact pm_shr_in _ _ | exact pm_or_in _ _ | exact pm_xor_in _ _ | exact pm_shl_in _ _ | exact pm_cmp_in _ _ | exact pm_b8_in _ | (unfold pm_inI; split <;> omega)) (fun h4 => ?_) (fun h4 => ?_)
                      · replace h4 : (c : Int) < 0 := h4
                        refine g_iconst lk_63_164 ?_
                        refine g_ireturn lk_63_165 (fun _ => by omega) ?_
                        first | exact ⟨lay5, F4.trans nf5, rfl, ft5⟩ | (exfalso; omega)
                      · replace h4 : ¬ ((c : Int) < 0) := h4
                        refine g_aload_n lk_63_153 rfl ?_
                        refine g_aload_n lk_63_154 rfl ?_
                        refine g_iload_n lk_63_155 rfl ?_
                        refine g_iconst lk_63_156 ?_
                        refine g_iadd lk_63_157 ?_
                        refine g_virtual (p := 2) (Qc := _) lk_63_158 rfl (Nat.le_of_ble_eq_true rfl) rfl rfl (lay4.on (by decide) rfl) (Nat.le_of_ble_eq_true rfl) (Nat.le_of_ble_eq_true rfl) (Nat.zero_le _) (Nat.zero_le _) (g4) ?_
                        rintro _ K5 ⟨lay5, nf5, rfl, ft5⟩
                        show Wp _ 63 161 [(2, ((2 : Nat) : Int)), (2, ((8 : Nat) : Int)), (0, (dd : Int)), (0, 0), (0, (s : Int)), (0, (c : Int))] [(0, 0)] K5 _ _ _
                        refine g_if (t := 166) lk_63_161 rfl (by first | (unfold pm_inI; omega) | exact pm_and_in _ _ | exact pm_shr_in _ _ | exact pm_or_in _ _ | exact pm_xor_in _ _ | exact pm_shl_in _ _ | exact pm_cmp_in _ _ | exact pm_b8_in _ | (unfold pm_inI; split <;> omega)) (fun h => absurd h (show ¬ (¬ (0 : Int) = (0 : Int)) by omega)) (fun _ => ?_)
                        refine g_iconst lk_63_164 ?_
                        refine g_ireturn lk_63_165 (fun _ => by omega) ?_
                        first | exact ⟨lay5, F4.trans nf5, rfl, ft5⟩ | (exfalso; omega)
                    · replace h3 : ¬ (¬ (s : Int) = 0) := h3
                      refine g_iconst lk_63_125 ?_
                      refine g_ireturn lk_63_126 (fun _ => by omega) ?_
                      first | exact ⟨lay5, F4.trans nf5, rfl, ft5⟩ | (exfalso; omega)
                  · replace h2 : ¬ ((c : Int) < 31) := h2
                    omega
              | inr y1 =>
                obtain ⟨L1, t1⟩ := y1
                obtain ⟨v1, v2, v3⟩ := pN_ok n5 f u2 k1
                have step : ∀ K4 K5 : pm_M, Lay K5 → NdF 8 M K4 → NdF 8 K4 K5 → pm_ct K4 9 c = (2 : Int) → pm_ct K4 10 c = (s : Int) → Blw M K4 8 c → TkX K5 ch t1 → pm_ct K5 8 3 = ((c + 1 + L1.length : Nat) : Int) → SgAt K5 8 (c + 1) (L1.map (fun y => y.1)) → Blw K4 K5 8 (c + 1) → Sv M K5 → Wp (d + 3) 63 166 [(2, ((2 : Nat) : Int)), (2, ((8 : Nat) : Int)), (0, (dd : Int)), (0, 0), (0, (s : Int)), (0, (c : Int))] [] K5 mc ms (fun ρ M' => Lay M' ∧ NdF 8 M M' ∧ ResX ρ M' (fun x => TkX M' ch x.2 ∧ pm_ct M' 8 3 = ((c + x.1.length : Nat) : Int) ∧ SgAt M' 8 c (x.1.map (fun y => y.1)) ∧ Blw M M' 8 c ∧ Sv M M') (pN ch n R C (f + 1) dd c q t)) := by
                  intro K4 K5 lay5 F4 F5 x1 x2 x3 tk5 ct5 sg5 bl5 sv5
                  cases k2 : pN ch n R C f (dd + 1) (c + 1 + L1.length) c t1 with
                  | inl e =>
                    rw [pN_nd2 a b g hp k1 k2]
                    refine g_aload_n lk_63_166 rfl ?_
                    refine g_getfield lk_63_167 rfl (lay5.on (by decide) rfl) (v := ((11 : Nat) : Int)) (lay5.rf rfl) ?_
                    refine g_iload lk_63_170 rfl ?_
                    refine g_aload_n lk_63_172 rfl ?_
                    refine m_getfield (u := []) (M := K5) lk_63_173 rfl (lay5.on (by decide) rfl) (v := ((c + 1 + L1.length : Nat) : Int)) ct5 ?_
                    have lay1 : Lay (Mu [(11, pm_upd (pm_ct K5 11) c ((c + 1 + L1.length : Nat) : Int))] K5) := lay5.muA (l := []) (a := 11) (f := pm_upd (pm_ct K5 11) c ((c + 1 + L1.length : Nat) : Int)) rfl rfl
                    refine m_iastore (u := []) (u' := [(11, pm_upd (pm_ct K5 11) c ((c + 1 + L1.length : Nat) : Int))]) (M := K5) lk_63_176 (lay5.ay (by decide) rfl) (by omega) (j := c) (by omega) rfl ?_
                    refine g_aload_n lk_63_177 rfl ?_
                    refine g_aload_n lk_63_178 rfl ?_
                    refine g_iload_n lk_63_179 rfl ?_
                    refine g_iconst lk_63_180 ?_
                    refine g_iadd lk_63_181 ?_
                    have fM : Fr [11] K5 (Mu [(11, pm_upd (pm_ct K5 11) c ((c + 1 + L1.length : Nat) : Int))] K5) := Fr.mu _ _ rfl
                    have F6 : NdF 8 M (Mu [(11, pm_upd (pm_ct K5 11) c ((c + 1 + L1.length : Nat) : Int))] K5) := (F4.trans F5).trans (Fr.nd3 (P := 8) fM (by omega))
                    have g5 := ih (d + 2) 0 0 (Mu [(11, pm_upd (pm_ct K5 11) c ((c + 1 + L1.length : Nat) : Int))] K5) (dd + 1) (c + 1 + L1.length) c t1 (by omega) (by omega) (by omega) lay1 (F6.tc (by omega) hM) (Fr.tk3 (P := 8) fM (by omega) tk5) v1 (by rw [F6.c (by omega) (Or.inr rfl)]; exact hR) (by rw [F6.c (by omega) (Or.inr rfl)]; exact hC) (by rw [fM.ct (by decide)]; exact ct5) (by omega)
                    rw [k2] at g5
                    refine g_virtual (p := 2) (Qc := _) lk_63_182 rfl (Nat.le_of_ble_eq_true rfl) rfl rfl (lay1.on (by decide) rfl) (Nat.le_of_ble_eq_true rfl) (Nat.le_of_ble_eq_true rfl) (Nat.zero_le _) (Nat.zero_le _) g5 ?_
                    rintro _ K7 ⟨lay7, nf7, rfl, ft7⟩
                    refine g_ireturn lk_63_185 (fun _ => by omega) ?_
                    exact ⟨lay7, F6.trans nf7, rfl, ft7⟩
                  | inr y2 =>
                    obtain ⟨L2, t2⟩ := y2
                    rw [pN_nd3 a b g hp k1 k2, ex]
                    refine g_aload_n lk_63_166 rfl ?_
                    refine g_getfield lk_63_167 rfl (lay5.on (by decide) rfl) (v := ((11 : Nat) : Int)) (lay5.rf rfl) ?_
                    refine g_iload lk_63_170 rfl ?_
                    refine g_aload_n lk_63_172 rfl ?_
                    refine m_getfield (u := []) (M := K5) lk_63_173 rfl (lay5.on (by decide) rfl) (v := ((c + 1 + L1.length : Nat) : Int)) ct5 ?_
                    have lay1 : Lay (Mu [(11, pm_upd (pm_ct K5 11) c ((c + 1 + L1.length : Nat) : Int))] K5) := lay5.muA (l := []) (a := 11) (f := pm_upd (pm_ct K5 11) c ((c + 1 + L1.length : Nat) : Int)) rfl rfl
                    refine m_iastore (u := []) (u' := [(11, pm_upd (pm_ct K5 11) c ((c + 1 + L1.length : Nat) : Int))]) (M := K5) lk_63_176 (lay5.ay (by decide) rfl) (by omega) (j := c) (by omega) rfl ?_
                    refine g_aload_n lk_63_177 rfl ?_
                    refine g_aload_n lk_63_178 rfl ?_
                    refine g_iload_n lk_63_179 rfl ?_
                    refine g_iconst lk_63_180 ?_
                    refine g_iadd lk_63_181 ?_
                    have fM : Fr [11] K5 (Mu [(11, pm_upd (pm_ct K5 11) c ((c + 1 + L1.length : Nat) : Int))] K5) := Fr.mu _ _ rfl
                    have F6 : NdF 8 M (Mu [(11, pm_upd (pm_ct K5 11) c ((c + 1 + L1.length : Nat) : Int))] K5) := (F4.trans F5).trans (Fr.nd3 (P := 8) fM (by omega))
                    have m3 : pm_ct (Mu [(11, pm_upd (pm_ct K5 11) c ((c + 1 + L1.length : Nat) : Int))] K5) 11 = pm_upd (pm_ct K5 11) c ((c + 1 + L1.length : Nat) : Int) := by rw [Mu_ct]; rfl
                    have m1 : pm_ct (Mu [(11, pm_upd (pm_ct K5 11) c ((c + 1 + L1.length : Nat) : Int))] K5) 9 = pm_ct K5 9 := fM.ct (by decide)
                    have m2 : pm_ct (Mu [(11, pm_upd (pm_ct K5 11) c ((c + 1 + L1.length : Nat) : Int))] K5) 10 = pm_ct K5 10 := fM.ct (by decide)
                    have g5 := ih (d + 2) 0 0 (Mu [(11, pm_upd (pm_ct K5 11) c ((c + 1 + L1.length : Nat) : Int))] K5) (dd + 1) (c + 1 + L1.length) c t1 (by omega) (by omega) (by omega) lay1 (F6.tc (by omega) hM) (Fr.tk3 (P := 8) fM (by omega) tk5) v1 (by rw [F6.c (by omega) (Or.inr rfl)]; exact hR) (by rw [F6.c (by omega) (Or.inr rfl)]; exact hC) (by rw [fM.ct (by decide)]; exact ct5) (by omega)
                    rw [k2] at g5
                    refine g_virtual (p := 2) (Qc := _) lk_63_182 rfl (Nat.le_of_ble_eq_true rfl) rfl rfl (lay1.on (by decide) rfl) (Nat.le_of_ble_eq_true rfl) (Nat.le_of_ble_eq_true rfl) (Nat.zero_le _) (Nat.zero_le _) g5 ?_
                    rintro _ K7 ⟨lay7, nf7, rfl, tk7, ct7, sg7, bl7, sv7⟩
                    refine g_ireturn lk_63_185 (fun _ => by omega) ?_
                    refine ⟨lay7, F6.trans nf7, rfl, tk7, ?_, ?_, ?_, (sv5.trans (fM.sv (by decide))).trans sv7⟩
                    · show pm_ct K7 8 3 = ((c + (L1 ++ L2).length.succ : Nat) : Int)
                      rw [List.length_append, show c + (L1.length + L2.length).succ = c + 1 + L1.length + L2.length by omega]
                      exact ct7
                    · rw [List.map_cons, List.map_append]
                      exact SgAt.join (P := 8) x1 x2 bl5 sg5 m1 m2 m3 (by rw [List.length_map]; exact bl7) (by rw [List.length_map]; exact sg7)
                    · exact ((x3.trans bl5 (by omega)).trans (Blw.put (P := 8) m1 m2 m3) (Nat.le_refl _)).trans bl7 (by omega)
                clear w1 w2 w3 w4 w5
                have hp' := hp
                rw [em] at hp'
                refine g_aload_n lk_63_0 rfl ?_
                refine m_getfield (u := []) (M := M) lk_63_1 rfl (lay.on (by decide) rfl) (v := 1) f10' ?_
                refine g_iconst lk_63_4 ?_
                refine g_icmp (t := 33) lk_63_5 rfl (by first | (unfold pm_inI; omega) | exact pm_and_in _ _ | exact pm_shr_in _ _ | exact pm_or_in _ _ | exact pm_xor_in _ _ | exact pm_shl_in _ _ | exact pm_cmp_in _ _ | exact pm_b8_in _ | (unfold pm_inI; split <;> omega)) (by first | (unfold pm_inI; omega) | exact pm_and_in _ _ | exact pm_shr_in _ _ | exact pm_or_in _ _ | exact pm_xor_in _ _ | exact pm_shl_in _ _ | exact pm_cmp_in _ _ | exact pm_b8_in _ | (unfold pm_inI; split <;> omega)) (fun h => absurd h (show ¬ (¬ (1 : Int) = (1 : Int)) by omega)) (fun _ => ?_)
                refine g_aload_n lk_63_8 rfl ?_
                refine m_getfield (u := []) (M := M) lk_63_9 rfl (lay.on (by decide) rfl) (v := 2) f13x ?_
                refine g_ldc lk_63_12 ?_
                refine g_icmp (t := 39) lk_63_14 rfl (by first | (unfold pm_inI; omega) | exact pm_and_in _ _ | exact pm_shr_in _ _ | exact pm_or_in _ _ | exact pm_xor_in _ _ | exact pm_shl_in _ _ | exact pm_cmp_in _ _ | exact pm_b8_in _ | (unfold pm_inI; split <;> omega)) (by first | (unfold pm_inI; omega) | exact pm_and_in _ _ | exact pm_shr_in _ _ | exact pm_or_in _ _ | exact pm_xor_in _ _ | exact pm_shl_in _ _ | exact pm_cmp_in _ _ | exact pm_b8_in _ | (unfold pm_inI; split <;> omega)) (fun h => absurd h (show ¬ ((2 : Int) = (239874 : Int)) by omega)) (fun _ => ?_)
                refine g_aload_n lk_63_17 rfl ?_
                refine m_getfield (u := []) (M := M) lk_63_18 rfl (lay.on (by decide) rfl) (v := 2) f13x ?_
                refine g_iconst lk_63_21 ?_
                refine g_icmp (t := 39) lk_63_22 rfl (by first | (unfold pm_inI; omega) | exact pm_and_in _ _ | exact pm_shr_in _ _ | exact pm_or_in _ _ | exact pm_xor_in _ _ | exact pm_shl_in _ _ | exact pm_cmp_in _ _ | exact pm_b8_in _ | (unfold pm_inI; split <;> omega)) (by first | (unfold pm_inI; omega) | exact pm_and_in _ _ | exact pm_shr_in _ _ | exact pm_or_in _ _ | exact pm_xor_in _ _ | exact pm_shl_in _ _ | exact pm_cmp_in _ _ | exact pm_b8_in _ | (unfold pm_inI; split <;> omega)) (fun h => absurd h (show ¬ ((2 : Int) = (1 : Int)) by omega)) (fun _ => ?_)
                refine g_aload_n lk_63_25 rfl ?_
                refine m_getfield (u := []) (M := M) lk_63_26 rfl (lay.on (by decide) rfl) (v := 2) f13x ?_
                refine g_iconst lk_63_29 ?_
                refine g_icmp (t := 39) lk_63_30 rfl (by first | (unfold pm_inI; omega) | exact pm_and_in _ _ | exact pm_shr_in _ _ | exact pm_or_in _ _ | exact pm_xor_in _ _ | exact pm_shl_in _ _ | exact pm_cmp_in _ _ | exact pm_b8_in _ | (unfold pm_inI; split <;> omega)) (by first | (unfold pm_inI; omega) | exact pm_and_in _ _ | exact pm_shr_in _ _ | exact pm_or_in _ _ | exact pm_xor_in _ _ | exact pm_shl_in _ _ | exact pm_cmp_in _ _ | exact pm_b8_in _ | (unfold pm_inI; split <;> omega)) (fun _ => ?_) (fun h => absurd (show (2 : Int) = (2 : Int) by omega) h)
                refine g_iload_n lk_63_39 rfl ?_
                refine g_bipush lk_63_40 ?_
                refine g_icmp (t := 54) lk_63_42 rfl (by first | (unfold pm_inI; omega) | exact pm_and_in _ _ | exact pm_shr_in _ _ | exact pm_or_in _ _ | exact pm_xor_in _ _ | exact pm_shl_in _ _ | exact pm_cmp_in _ _ | exact pm_b8_in _ | (unfold pm_inI; split <;> omega)) (by first | (unfold pm_inI; omega) | exact pm_and_in _ _ | exact pm_shr_in _ _ | exact pm_or_in _ _ | exact pm_xor_in _ _ | exact pm_shl_in _ _ | exact pm_cmp_in _ _ | exact pm_b8_in _ | (unfold pm_inI; split <;> omega)) (fun h1 => ?_) (fun h1 => ?_)
                · replace h1 : 9 ≤ (dd : Int) := h1
                  omega
                · replace h1 : ¬ (9 ≤ (dd : Int)) := h1
                  refine g_aload_n lk_63_45 rfl ?_
                  refine m_getfield (u := []) (M := M) lk_63_46 rfl (lay.on (by decide) rfl) (v := (c : Int)) hc ?_
                  refine g_bipush lk_63_49 ?_
                  refine g_icmp (t := 60) lk_63_51 rfl (by first | (unfold pm_inI; omega) | exact pm_and_in _ _ | exact pm_shr_in _ _ | exact pm_or_in _ _ | exact pm_xor_in _ _ | exact pm_shl_in _ _ | exact pm_cmp_in _ _ | exact pm_b8_in _ | (unfold pm_inI; split <;> omega)) (by first | (unfold pm_inI; omega) | exact pm_and_in _ _ | exact pm_shr_in _ _ | exact pm_or_in _ _ | exact pm_xor_in _ _ | exact pm_shl_in _ _ | exact pm_cmp_in _ _ | exact pm_b8_in _ | (unfold pm_inI; split <;> omega)) (fun h2 => ?_) (fun h2 => ?_)
                  · replace h2 : (c : Int) < 31 := h2
                    refine g_aload_n lk_63_60 rfl ?_
                    refine m_getfield (u := []) (M := M) lk_63_61 rfl (lay.on (by decide) rfl) (v := 2) f13x ?_
                    refine g_ldc lk_63_64 ?_
                    refine g_icmp (t := 75) lk_63_66 rfl (by first | (unfold pm_inI; omega) | exact pm_and_in _ _ | exact pm_shr_in _ _ | exact pm_or_in _ _ | exact pm_xor_in _ _ | exact pm_shl_in _ _ | exact pm_cmp_in _ _ | exact pm_b8_in _ | (unfold pm_inI; split <;> omega)) (by first | (unfold pm_inI; omega) | exact pm_and_in _ _ | exact pm_shr_in _ _ | exact pm_or_in _ _ | exact pm_xor_in _ _ | exact pm_shl_in _ _ | exact pm_cmp_in _ _ | exact pm_b8_in _ | (unfold pm_inI; split <;> omega)) (fun _ => ?_) (fun h => absurd (show ¬ (2 : Int) = (239874 : Int) by omega) h)
                    refine g_aload_n lk_63_75 rfl ?_
                    refine m_getfield (u := []) (M := M) lk_63_76 rfl (lay.on (by decide) rfl) (v := 2) f13x ?_
                    refine g_iconst lk_63_79 ?_
                    refine g_icmp (t := 87) lk_63_80 rfl (by first | (unfold pm_inI; omega) | exact pm_and_in _ _ | exact pm_shr_in _ _ | exact pm_or_in _ _ | exact pm_xor_in _ _ | exact pm_shl_in _ _ | exact pm_cmp_in _ _ | exact pm_b8_in _ | (unfold pm_inI; split <;> omega)) (by first | (unfold pm_inI; omega) | exact pm_and_in _ _ | exact pm_shr_in _ _ | exact pm_or_in _ _ | exact pm_xor_in _ _ | exact pm_shl_in _ _ | exact pm_cmp_in _ _ | exact pm_b8_in _ | (unfold pm_inI; split <;> omega)) (fun _ => ?_) (fun h => absurd (show ¬ (2 : Int) = (1 : Int) by omega) h)
                    refine g_iconst lk_63_87 ?_
                    refine g_istore_n (ls' := [(2, ((2 : Nat) : Int)), (2, ((8 : Nat) : Int)), (0, (dd : Int)), (0, 0), (9, 0), (9, 0)]) lk_63_88 rfl rfl ?_
                    refine g_aload_n lk_63_89 rfl ?_
                    refine g_virtual (p := 2) (Qc := _) lk_63_90 rfl (Nat.le_of_ble_eq_true rfl) rfl rfl (lay.on (by decide) rfl) (Nat.le_of_ble_eq_true rfl) (Nat.le_of_ble_eq_true rfl) (Nat.zero_le _) (Nat.zero_le _) (ad) ?_
                    rintro _ K1 ⟨rfl, lay1, rd1, tk1⟩
                    have f4 : pm_ct K1 4 2 = (C : Int) := (by rw [rd1.1.ct (by decide)]; exact hC)
                    have hc1 : pm_ct K1 8 3 = (c : Int) := (by rw [rd1.1.ct (by decide)]; exact hc)
                    show Wp _ 63 93 [(2, ((2 : Nat) : Int)), (2, ((8 : Nat) : Int)), (0, (dd : Int)), (0, 0), (9, 0), (9, 0)] [] K1 _ _ _
                    refine g_aload_n lk_63_93 rfl ?_
                    refine g_iload_n lk_63_94 rfl ?_
                    refine g_if (t := 108) lk_63_95 rfl (by first | (unfold pm_inI; omega) | exact pm_and_in _ _ | exact pm_shr_in _ _ | exact pm_or_in _ _ | exact pm_xor_in _ _ | exact pm_shl_in _ _ | exact pm_cmp_in _ _ | exact pm_b8_in _ | (unfold pm_inI; split <;> omega)) (fun _ => ?_) (fun h => absurd (show (0 : Int) = (0 : Int) by omega) h)
                    refine g_aload_n lk_63_108 rfl ?_
                    refine g_getfield lk_63_109 rfl (lay1.on (by decide) rfl) (v := ((4 : Nat) : Int)) (lay1.rf rfl) ?_
                    refine m_getfield (u := []) (M := K1) lk_63_112 rfl (lay1.on (by decide) rfl) (v := (C : Int)) f4 ?_
                    refine g_virtual (p := 2) (Qc := _) lk_63_115 rfl (Nat.le_of_ble_eq_true rfl) rfl rfl (lay1.on (by decide) rfl) (Nat.le_of_ble_eq_true rfl) (Nat.le_of_ble_eq_true rfl) (Nat.zero_le _) (Nat.zero_le _) (c_Reader_readSet (d := d + 1) (mc := 0) (ms := 0) lay1 (hM.rd rd1) tk1 u1 c6) ?_
                    rintro ρ2 K2 ⟨lay2, re2, o2⟩
                    obtain ⟨s1, s2, rfl, eK⟩ := set_inr hp' o2
                    rw [eK]
                    show Wp _ 63 118 [(2, ((2 : Nat) : Int)), (2, ((8 : Nat) : Int)), (0, (dd : Int)), (0, 0), (9, 0), (9, 0)] [(0, (s : Int))] K1 _ _ _
                    refine g_istore (ls' := [(2, ((2 : Nat) : Int)), (2, ((8 : Nat) : Int)), (0, (dd : Int)), (0, 0), (0, (s : Int)), (9, 0)]) lk_63_118 rfl rfl ?_
                    refine g_iload lk_63_120 rfl ?_
                    refine g_if (t := 127) lk_63_122 rfl (by first | (unfold pm_inI; omega) | exact pm_and_in _ _ | exact pm_shr_in _ _ | exact pm_or_in _ _ | exact pm_xor_in _ _ | exact pm_shl_in _ _ | exact pm_cmp_in _ _ | exact pm_b8_in _ | (unfold pm_inI; split <;> omega)) (fun h3 => ?_) (fun h3 => ?_)
                    · replace h3 : ¬ (s : Int) = 0 := h3
                      refine g_aload_n lk_63_127 rfl ?_
                      refine g_iload_n lk_63_128 rfl ?_
                      refine g_if (t := 136) lk_63_129 rfl (by first | (unfold pm_inI; omega) | exact pm_and_in _ _ | exact pm_shr_in _ _ | exact pm_or_in _ _ | exact pm_xor_in _ _ | exact pm_shl_in _ _ | exact pm_cmp_in _ _ | exact pm_b8_in _ | (unfold pm_inI; split <;> omega)) (fun _ => ?_) (fun h => absurd (show (0 : Int) = (0 : Int) by omega) h)
                      refine g_iconst lk_63_136 ?_
                      refine g_iload lk_63_137 rfl ?_
                      refine g_virtual (p := 8) (Qc := _) lk_63_139 rfl (Nat.le_of_ble_eq_true rfl) rfl rfl (lay1.on (by decide) rfl) (Nat.le_of_ble_eq_true rfl) (Nat.le_of_ble_eq_true rfl) (Nat.zero_le _) (Nat.zero_le _) (c_Nodes_addR0 (d := d + 2) (mc := 0) (ms := 0) (x := 2) (y := s) lay1 hc1 c30) ?_
                      rintro _ K3 ⟨rfl, lay3, ax⟩
                      have tc3 := (ax.nd (by omega)).tc (by omega) (hM.rd rd1)
                      have ad3 := c_Reader_advance (d := d + 1) (mc := 0) (ms := 0) lay3 tc3 (ax.tk (by omega) tk1).2.2.2.1 u1.2.2.1
                      show Wp _ 63 142 [(2, ((2 : Nat) : Int)), (2, ((8 : Nat) : Int)), (0, (dd : Int)), (0, 0), (0, (s : Int)), (9, 0)] [(0, (c : Int))] K3 _ _ _
                      refine g_istore (ls' := [(2, ((2 : Nat) : Int)), (2, ((8 : Nat) : Int)), (0, (dd : Int)), (0, 0), (0, (s : Int)), (0, (c : Int))]) lk_63_142 rfl rfl ?_
                      refine g_aload_n lk_63_144 rfl ?_
                      refine g_virtual (p := 2) (Qc := _) lk_63_145 rfl (Nat.le_of_ble_eq_true rfl) rfl rfl (lay3.on (by decide) rfl) (Nat.le_of_ble_eq_true rfl) (Nat.le_of_ble_eq_true rfl) (Nat.zero_le _) (Nat.zero_le _) (ad3) ?_
                      rintro _ K4 ⟨rfl, lay4, rd4, tk4⟩
                      have F4 : NdF 8 M K4 := (rd1.re.nd.trans (ax.nd (by omega))).trans rd4.re.nd
                      have x3 : Blw M K4 8 c := ((rd1.blw (by omega)).trans ax.blw (Nat.le_refl _)).trans (rd4.blw (c := c) (by omega)) (Nat.le_refl _)
                      have x1 : pm_ct K4 9 c = (2 : Int) := (by rw [rd4.1.ct (by decide)]; exact ax.at.1)
                      have x2 : pm_ct K4 10 c = (s : Int) := (by rw [rd4.1.ct (by decide)]; exact ax.at.2.1)
                      have sv4 : Sv M K4 := (rd1.sv.trans (ax.1.sv (by decide))).trans rd4.sv
                      have g4 := ih (d + 2) 0 0 K4 (dd + 1) (c + 1) c _ (by omega) (by omega) (by omega) lay4 (tc3.rd rd4) tk4 u2 (by rw [F4.c (by omega) (Or.inr rfl)]; exact hR) (by rw [F4.c (by omega) (Or.inr rfl)]; exact hC) (by rw [rd4.1.ct (by decide)]; exact ax.2.1) (by omega)
                      rw [k1] at g4
                      show Wp _ 63 148 [(2, ((2 : Nat) : Int)), (2, ((8 : Nat) : Int)), (0, (dd : Int)), (0, 0), (0, (s : Int)), (0, (c : Int))] [] K4 _ _ _
                      refine g_iload lk_63_148 rfl ?_
                      refine g_if (t := 164) lk_63_150 rfl (by first | (unfold pm_inI; omega) | exact pm_and_in _ _ | exact pm_shr_in _ _ | exact pm_or_in _ _ | exact pm_xor_in _ _ | exact pm_shl_in _ _ | exact pm_cmp_in _ _ | exact pm_b8_in _ | (unfold pm_inI; split <;> omega)) (fun h4 => ?_) (fun h4 => ?_)
                      · replace h4 : (c : Int) < 0 := h4
                        omega
                      · replace h4 : ¬ ((c : Int) < 0) := h4
                        refine g_aload_n lk_63_153 rfl ?_
                        refine g_aload_n lk_63_154 rfl ?_
                        refine g_iload_n lk_63_155 rfl ?_
                        refine g_iconst lk_63_156 ?_
                        refine g_iadd lk_63_157 ?_
                        refine g_virtual (p := 2) (Qc := _) lk_63_158 rfl (Nat.le_of_ble_eq_true rfl) rfl rfl (lay4.on (by decide) rfl) (Nat.le_of_ble_eq_true rfl) (Nat.le_of_ble_eq_true rfl) (Nat.zero_le _) (Nat.zero_le _) (g4) ?_
                        rintro _ K5 ⟨lay5, nf5, rfl, tk5, ct5, sg5, bl5, sv5⟩
                        show Wp _ 63 161 [(2, ((2 : Nat) : Int)), (2, ((8 : Nat) : Int)), (0, (dd : Int)), (0, 0), (0, (s : Int)), (0, (c : Int))] [(0, 1)] K5 _ _ _
                        refine g_if (t := 166) lk_63_161 rfl (by first | (unfold pm_inI; omega) | exact pm_and_in _ _ | exact pm_shr_in _ _ | exact pm_or_in _ _ | exact pm_xor_in _ _ | exact pm_shl_in _ _ | exact pm_cmp_in _ _ | exact pm_b8_in _ | (unfold pm_inI; split <;> omega)) (fun _ => ?_) (fun h => absurd (show ¬ (1 : Int) = (0 : Int) by omega) h)
                        exact step K4 K5 lay5 F4 nf5 x1 x2 x3 tk5 ct5 sg5 bl5 (sv4.trans sv5)
                    · replace h3 : ¬ (¬ (s : Int) = 0) := h3
                      refine g_iconst lk_63_125 ?_
                      refine g_ireturn lk_63_126 (fun _ => by omega) ?_
                      omega
                  · replace h2 : ¬ ((c : Int) < 31) := h2
                    omega
    · rw [pN_no a]
      clear ih
      by_cases e : t.1 = 1
      · have f10' : pm_ct M 2 10 = 1 := by rw [f10, e]; rfl
        obtain ⟨w1, w2, w3, w4, w5⟩ := w27_con (hK.lt e)
        have f13' : pm_ct M 2 13 = ((nr 27 (twd ch t) : Nat) : Int) := f13 e
        obtain ⟨w, hw⟩ : ∃ w, w = nr 27 (twd ch t) := ⟨_, rfl⟩
        have ws : w < 1073741824 := by rw [hw]; exact nr_small (b := 27) (by omega) (by omega) (hK.lt e)
        rw [← hw] at f13' w1 w2 w5
        have n1 : ¬ (w : Int) = 1 := fun k => a ⟨e, Or.inr (Or.inl (w1.mp k))⟩
        have n2 : ¬ (w : Int) = 2 := fun k => a ⟨e, Or.inr (Or.inr (w2.mp k))⟩
        have n3 : ¬ (w : Int) = 239874 := fun k => a ⟨e, Or.inl (w5.mp k)⟩
        clear w1 w2 w3 w4 w5 a
        refine g_aload_n lk_63_0 rfl ?_
        refine m_getfield (u := []) (M := M) lk_63_1 rfl (lay.on (by decide) rfl) (v := 1) f10' ?_
        refine g_iconst lk_63_4 ?_
        refine g_icmp (t := 33) lk_63_5 rfl (by first | (unfold pm_inI; omega) | exact pm_and_in _ _ | exact pm_shr_in _ _ | exact pm_or_in _ _ | exact pm_xor_in _ _ | exact pm_shl_in _ _ | exact pm_cmp_in _ _ | exact pm_b8_in _ | (unfold pm_inI; split <;> omega)) (by first | (unfold pm_inI; omega) | exact pm_and_in _ _ | exact pm_shr_in _ _ | exact pm_or_in _ _ | exact pm_xor_in _ _ | exact pm_shl_in _ _ | exact pm_cmp_in _ _ | exact pm_b8_in _ | (unfold pm_inI; split <;> omega)) (fun h => absurd h (show ¬ (¬ (1 : Int) = (1 : Int)) by omega)) (fun _ => ?_)
        refine g_aload_n lk_63_8 rfl ?_
        refine m_getfield (u := []) (M := M) lk_63_9 rfl (lay.on (by decide) rfl) (v := (w : Int)) f13' ?_
        refine g_ldc lk_63_12 ?_
        refine g_icmp (t := 39) lk_63_14 rfl (by first | (unfold pm_inI; omega) | exact pm_and_in _ _ | exact pm_shr_in _ _ | exact pm_or_in _ _ | exact pm_xor_in _ _ | exact pm_shl_in _ _ | exact pm_cmp_in _ _ | exact pm_b8_in _ | (unfold pm_inI; split <;> omega)) (by first | (unfold pm_inI; omega) | exact pm_and_in _ _ | exact pm_shr_in _ _ | exact pm_or_in _ _ | exact pm_xor_in _ _ | exact pm_shl_in _ _ | exact pm_cmp_in _ _ | exact pm_b8_in _ | (unfold pm_inI; split <;> omega)) (fun h1 => ?_) (fun h1 => ?_)
        · replace h1 : (w : Int) = 239874 := h1
          omega
        · replace h1 : ¬ ((w : Int) = 239874) := h1
          refine g_aload_n lk_63_17 rfl ?_
          refine m_getfield (u := []) (M := M) lk_63_18 rfl (lay.on (by decide) rfl) (v := (w : Int)) f13' ?_
          refine g_iconst lk_63_21 ?_
          refine g_icmp (t := 39) lk_63_22 rfl (by first | (unfold pm_inI; omega) | exact pm_and_in _ _ | exact pm_shr_in _ _ | exact pm_or_in _ _ | exact pm_xor_in _ _ | exact pm_shl_in _ _ | exact pm_cmp_in _ _ | exact pm_b8_in _ | (unfold pm_inI; split <;> omega)) (by first | (unfold pm_inI; omega) | exact pm_and_in _ _ | exact pm_shr_in _ _ | exact pm_or_in _ _ | exact pm_xor_in _ _ | exact pm_shl_in _ _ | exact pm_cmp_in _ _ | exact pm_b8_in _ | (unfold pm_inI; split <;> omega)) (fun h2 => ?_) (fun h2 => ?_)
          · replace h2 : (w : Int) = 1 := h2
            omega
          · replace h2 : ¬ ((w : Int) = 1) := h2
            refine g_aload_n lk_63_25 rfl ?_
            refine m_getfield (u := []) (M := M) lk_63_26 rfl (lay.on (by decide) rfl) (v := (w : Int)) f13' ?_
            refine g_iconst lk_63_29 ?_
            refine g_icmp (t := 39) lk_63_30 rfl (by first | (unfold pm_inI; omega) | exact pm_and_in _ _ | exact pm_shr_in _ _ | exact pm_or_in _ _ | exact pm_xor_in _ _ | exact pm_shl_in _ _ | exact pm_cmp_in _ _ | exact pm_b8_in _ | (unfold pm_inI; split <;> omega)) (by first | (unfold pm_inI; omega) | exact pm_and_in _ _ | exact pm_shr_in _ _ | exact pm_or_in _ _ | exact pm_xor_in _ _ | exact pm_shl_in _ _ | exact pm_cmp_in _ _ | exact pm_b8_in _ | (unfold pm_inI; split <;> omega)) (fun h3 => ?_) (fun h3 => ?_)
            · replace h3 : (w : Int) = 2 := h3
              omega
            · replace h3 : ¬ ((w : Int) = 2) := h3
              refine g_aload_n lk_63_33 rfl ?_
              refine g_iconst lk_63_34 ?_
              refine g_virtual (p := 2) (Qc := _) lk_63_35 rfl (Nat.le_of_ble_eq_true rfl) rfl rfl (lay.on (by decide) rfl) (Nat.le_of_ble_eq_true rfl) (Nat.le_of_ble_eq_true rfl) (Nat.zero_le _) (Nat.zero_le _) (rf2) ?_
              rintro _ K1 ⟨rfl, lay1, re1, ft1⟩
              show Wp _ 63 38 [(2, ((2 : Nat) : Int)), (2, ((8 : Nat) : Int)), (0, (dd : Int)), (9, 0), (9, 0), (9, 0)] [(0, 0)] K1 _ _ _
              refine g_ireturn lk_63_38 (fun _ => by omega) ?_
              exact ⟨lay1, re1.nd, rfl, ft1⟩
      · obtain ⟨K, hk⟩ : ∃ K, K = t.1 := ⟨_, rfl⟩
        rw [← hk] at f10 t4 e
        clear a
        refine g_aload_n lk_63_0 rfl ?_
        refine m_getfield (u := []) (M := M) lk_63_1 rfl (lay.on (by decide) rfl) (v := (K : Int)) f10 ?_
        refine g_iconst lk_63_4 ?_
        refine g_icmp (t := 33) lk_63_5 rfl (by first | (unfold pm_inI; omega) | exact pm_and_in _ _ | exact pm_shr_in _ _ | exact pm_or_in _ _ | exact pm_xor_in _ _ | exact pm_shl_in _ _ | exact pm_cmp_in _ _ | exact pm_b8_in _ | (unfold pm_inI; split <;> omega)) (by first | (unfold pm_inI; omega) | exact pm_and_in _ _ | exact pm_shr_in _ _ | exact pm_or_in _ _ | exact pm_xor_in _ _ | exact pm_shl_in _ _ | exact pm_cmp_in _ _ | exact pm_b8_in _ | (unfold pm_inI; split <;> omega)) (fun h1 => ?_) (fun h1 => ?_)
        · replace h1 : ¬ (K : Int) = 1 := h1
          refine g_aload_n lk_63_33 rfl ?_
          refine g_iconst lk_63_34 ?_
          refine g_virtual (p := 2) (Qc := _) lk_63_35 rfl (Nat.le_of_ble_eq_true rfl) rfl rfl (lay.on (by decide) rfl) (Nat.le_of_ble_eq_true rfl) (Nat.le_of_ble_eq_true rfl) (Nat.zero_le _) (Nat.zero_le _) (rf2) ?_
          rintro _ K1 ⟨rfl, lay1, re1, ft1⟩
          show Wp _ 63 38 [(2, ((2 : Nat) : Int)), (2, ((8 : Nat) : Int)), (0, (dd : Int)), (9, 0), (9, 0), (9, 0)] [(0, 0)] K1 _ _ _
          refine g_ireturn lk_63_38 (fun _ => by omega) ?_
          exact ⟨lay1, re1.nd, rfl, ft1⟩
        · replace h1 : ¬ (¬ (K : Int) = 1) := h1
          omega
theorem c_Nodes_addR1 {d mc ms : Nat} {M : pm_M} (lay : Lay M) {k x y : Nat} (hk : pm_ct M 12 3 = (k : Int)) (k31 : k < 31) :
    pm_E d 36 [(2, ((12 : Nat) : Int)), (0, (x : Int)), (0, (y : Int))] M mc ms (fun ρ M' => ρ = some (0, (k : Int)) ∧ Lay M' ∧ AdX M M' 12 k x y) := by
  show Wp d 36 0 [(2, ((12 : Nat) : Int)), (0, (x : Int)), (0, (y : Int))] [] M mc ms _
  refine g_aload_n lk_36_0 rfl ?_
  refine m_getfield (u := []) (M := M) lk_36_1 rfl (lay.on (by decide) rfl) (v := (k : Int)) hk ?_
  refine g_aload_n lk_36_4 rfl ?_
  refine g_getfield lk_36_5 rfl (lay.on (by decide) rfl) (v := ((13 : Nat) : Int)) (lay.rf rfl) ?_
  refine g_arraylength (n := 31) lk_36_8 (by decide) (lay.ay (by decide) rfl) ?_
  refine g_icmp (t := 14) lk_36_9 rfl (by first | (unfold pm_inI; omega) | exact pm_and_in _ _ | exact pm_shr_in _ _ | exact pm_or_in _ _ | exact pm_xor_in _ _ | exact pm_shl_in _ _ | exact pm_cmp_in _ _ | exact pm_b8_in _ | (unfold pm_inI; split <;> omega)) (by first | (unfold pm_inI; omega) | exact pm_and_in _ _ | exact pm_shr_in _ _ | exact pm_or_in _ _ | exact pm_xor_in _ _ | exact pm_shl_in _ _ | exact pm_cmp_in _ _ | exact pm_b8_in _ | (unfold pm_inI; split <;> omega)) (fun h1 => ?_) (fun h1 => ?_)
  · replace h1 : (k : Int) < 31 := h1
    refine g_aload_n lk_36_14 rfl ?_
    refine g_getfield lk_36_15 rfl (lay.on (by decide) rfl) (v := ((13 : Nat) : Int)) (lay.rf rfl) ?_
    refine g_aload_n lk_36_18 rfl ?_
    refine m_getfield (u := []) (M := M) lk_36_19 rfl (lay.on (by decide) rfl) (v := (k : Int)) hk ?_
    refine g_iload_n lk_36_22 rfl ?_
    have lay2 : Lay (Mu [(13, pm_upd (pm_ct M 13) k (x : Int))] M) := lay.muA (l := []) (a := 13) (f := pm_upd (pm_ct M 13) k (x : Int)) rfl rfl
    refine m_iastore (u := []) (u' := [(13, pm_upd (pm_ct M 13) k (x : Int))]) (M := M) lk_36_23 (lay.ay (by decide) rfl) (by omega) (j := k) (by omega) rfl ?_
    refine g_aload_n lk_36_24 rfl ?_
    refine g_getfield lk_36_25 rfl (lay2.on (by decide) rfl) (v := ((14 : Nat) : Int)) (lay2.rf rfl) ?_
    refine g_aload_n lk_36_28 rfl ?_
    refine m_getfield (u := [(13, pm_upd (pm_ct M 13) k (x : Int))]) (M := M) lk_36_29 rfl (lay2.on (by decide) rfl) (v := (k : Int)) hk ?_
    refine g_iload_n lk_36_32 rfl ?_
    have lay3 : Lay (Mu [(13, pm_upd (pm_ct M 13) k (x : Int)), (14, pm_upd (pm_ct M 14) k (y : Int))] M) := lay2.muA (l := [(13, pm_upd (pm_ct M 13) k (x : Int))]) (a := 14) (f := pm_upd (pm_ct M 14) k (y : Int)) rfl rfl
    refine m_iastore (u := [(13, pm_upd (pm_ct M 13) k (x : Int))]) (u' := [(13, pm_upd (pm_ct M 13) k (x : Int)), (14, pm_upd (pm_ct M 14) k (y : Int))]) (M := M) lk_36_33 (lay2.ay (by decide) rfl) (by omega) (j := k) (by omega) rfl ?_
    refine g_aload_n lk_36_34 rfl ?_
    refine g_getfield lk_36_35 rfl (lay3.on (by decide) rfl) (v := ((15 : Nat) : Int)) (lay3.rf rfl) ?_
    refine g_aload_n lk_36_38 rfl ?_
    refine m_getfield (u := [(13, pm_upd (pm_ct M 13) k (x : Int)), (14, pm_upd (pm_ct M 14) k (y : Int))]) (M := M) lk_36_39 rfl (lay3.on (by decide) rfl) (v := (k : Int)) hk ?_
    refine g_iconst lk_36_42 ?_
    have lay4 : Lay (Mu [(13, pm_upd (pm_ct M 13) k (x : Int)), (14, pm_upd (pm_ct M 14) k (y : Int)), (15, pm_upd (pm_ct M 15) k (-1))] M) := lay3.muA (l := [(13, pm_upd (pm_ct M 13) k (x : Int)), (14, pm_upd (pm_ct M 14) k (y : Int))]) (a := 15) (f := pm_upd (pm_ct M 15) k (-1)) rfl rfl
    refine m_iastore (u := [(13, pm_upd (pm_ct M 13) k (x : Int)), (14, pm_upd (pm_ct M 14) k (y : Int))]) (u' := [(13, pm_upd (pm_ct M 13) k (x : Int)), (14, pm_upd (pm_ct M 14) k (y : Int)), (15, pm_upd (pm_ct M 15) k (-1))]) (M := M) lk_36_43 (lay3.ay (by decide) rfl) (by omega) (j := k) (by omega) rfl ?_
    refine g_aload_n lk_36_44 rfl ?_
    refine g_dup lk_36_45 rfl ?_
    refine m_getfield (u := [(13, pm_upd (pm_ct M 13) k (x : Int)), (14, pm_upd (pm_ct M 14) k (y : Int)), (15, pm_upd (pm_ct M 15) k (-1))]) (M := M) lk_36_46 rfl (lay4.on (by decide) rfl) (v := (k : Int)) hk ?_
    refine g_iconst lk_36_49 ?_
    refine g_iadd lk_36_50 ?_
    have lay5 : Lay (Mu [(13, pm_upd (pm_ct M 13) k (x : Int)), (14, pm_upd (pm_ct M 14) k (y : Int)), (15, pm_upd (pm_ct M 15) k (-1)), (12, pm_upd (pm_ct M 12) 3 ((k : Int) + 1))] M) := lay4.muF (l := [(13, pm_upd (pm_ct M 13) k (x : Int)), (14, pm_upd (pm_ct M 14) k (y : Int)), (15, pm_upd (pm_ct M 15) k (-1))]) (a := 12) (k := 3) (z := ((k : Int) + 1)) rfl rfl
    refine m_putfield (u := [(13, pm_upd (pm_ct M 13) k (x : Int)), (14, pm_upd (pm_ct M 14) k (y : Int)), (15, pm_upd (pm_ct M 15) k (-1))]) (u' := [(13, pm_upd (pm_ct M 13) k (x : Int)), (14, pm_upd (pm_ct M 14) k (y : Int)), (15, pm_upd (pm_ct M 15) k (-1)), (12, pm_upd (pm_ct M 12) 3 ((k : Int) + 1))]) (M := M) lk_36_51 rfl (lay4.on (by decide) rfl) (fun h => absurd h (by decide)) rfl ?_
    refine g_aload_n lk_36_54 rfl ?_
    refine m_getfield (u := [(13, pm_upd (pm_ct M 13) k (x : Int)), (14, pm_upd (pm_ct M 14) k (y : Int)), (15, pm_upd (pm_ct M 15) k (-1)), (12, pm_upd (pm_ct M 12) 3 ((k : Int) + 1))]) (M := M) lk_36_55 rfl (lay5.on (by decide) rfl) (v := ((k : Int) + 1)) rfl ?_
    refine g_iconst lk_36_58 ?_
    refine g_isub lk_36_59 ?_
    refine g_ireturn lk_36_60 (fun h => absurd h (by decide)) ?_
    refine ⟨?_, lay5, Fr.mu _ _ rfl, by rw [Mu_ct]; rfl, by rw [Mu_ct]; rfl, by rw [Mu_ct]; rfl, by rw [Mu_ct]; rfl⟩
    congr 2
    omega
  · replace h1 : ¬ ((k : Int) < 31) := h1
    refine g_iconst lk_36_12 ?_
    refine g_ireturn lk_36_13 (fun h => absurd h (by decide)) ?_
    omega
theorem c_Reader_readLeaf1 {d mc ms : Nat} {M : pm_M} (lay : Lay M) {n : Nat} {ch : Nat → Nat} (hM : TcX M n ch) {t : Tok} (hT : TkX M ch t) (hK : TkOK ch n t) {c : Nat} (hc : pm_ct M 12 3 = (c : Int)) (c31 : c < 31) :
    pm_E (d + 2) 64 [(2, ((2 : Nat) : Int)), (2, ((12 : Nat) : Int))] M mc ms (fun ρ M' => Lay M' ∧ NdF 12 M M' ∧ ResX ρ M' (fun v => TkX M' ch (lxt ch n (lxt ch n t.2.2).2.2) ∧ pm_ct M' 12 3 = ((c + 1 : Nat) : Int) ∧ SgAt M' 12 c [(0, v, -1)] ∧ Blw M M' 12 c ∧ Sv M M') (pNum ch 0 (lxt ch n t.2.2))) := by
  have n5 := hM.1
  have ad := c_Reader_advance (d := d) (mc := 0) (ms := 0) lay hM hT.2.2.2.1 hK.2.2.1
  have uk := (lxt_ok (ch := ch) hK.2.2.1 n5).1
  obtain ⟨u, hu⟩ : ∃ u, u = lxt ch n t.2.2 := ⟨_, rfl⟩
  rw [← hu] at uk ad ⊢
  show Wp (d + 2) 64 0 [(2, ((2 : Nat) : Int)), (2, ((12 : Nat) : Int))] [] M mc ms _
  cases hp : pNum ch 0 u with
  | inl e =>
    refine g_aload_n lk_64_0 rfl ?_
    refine g_virtual (p := 2) (Qc := _) lk_64_1 rfl (Nat.le_of_ble_eq_true rfl) rfl rfl (lay.on (by decide) rfl) (Nat.le_of_ble_eq_true rfl) (Nat.le_of_ble_eq_true rfl) (Nat.zero_le _) (Nat.zero_le _) (ad) ?_
    rintro _ K1 ⟨rfl, lay1, rd1, tk1⟩
    have inf := c_Reader_isNumberFrom (d := d) (mc := 0) (ms := 0) lay1 (hM.rd rd1) tk1 uk (l := 0) (by omega)
    rw [hp] at inf
    show Wp _ 64 4 [(2, ((2 : Nat) : Int)), (2, ((12 : Nat) : Int))] [] K1 _ _ _
    refine g_aload_n lk_64_4 rfl ?_
    refine g_iconst lk_64_5 ?_
    refine g_virtual (p := 2) (Qc := _) lk_64_6 rfl (Nat.le_of_ble_eq_true rfl) rfl rfl (lay1.on (by decide) rfl) (Nat.le_of_ble_eq_true rfl) (Nat.le_of_ble_eq_true rfl) (Nat.zero_le _) (Nat.zero_le _) (inf) ?_
    rintro _ K2 ⟨lay2, re2, rfl, ft2⟩
    show Wp _ 64 9 [(2, ((2 : Nat) : Int)), (2, ((12 : Nat) : Int))] [(0, 0)] K2 _ _ _
    refine g_if (t := 14) lk_64_9 rfl (by first | (unfold pm_inI; omega) | exact pm_and_in _ _ | exact pm_shr_in _ _ | exact pm_or_in _ _ | exact pm_xor_in _ _ | exact pm_shl_in _ _ | exact pm_cmp_in _ _ | exact pm_b8_in _ | (unfold pm_inI; split <;> omega)) (fun h => absurd h (show ¬ (¬ (0 : Int) = (0 : Int)) by omega)) (fun _ => ?_)
    refine g_iconst lk_64_12 ?_
    refine g_ireturn lk_64_13 (fun _ => by omega) ?_
    exact ⟨lay2, rd1.re.nd.trans re2.nd, rfl, ft2⟩
  | inr v =>
    obtain ⟨p1, p2, p3, p4⟩ := pNum_inr hp
    have ev : (ch u.2.1 : Int) - 48 = (v : Int) := by omega
    obtain ⟨x, hx⟩ : ∃ x, x = ch u.2.1 := ⟨_, rfl⟩
    rw [← hx] at ev
    have v9 : v ≤ 9 := by
      have := run_ch uk p1 (i := u.2.1) (by omega) (by omega)
      omega
    refine g_aload_n lk_64_0 rfl ?_
    refine g_virtual (p := 2) (Qc := _) lk_64_1 rfl (Nat.le_of_ble_eq_true rfl) rfl rfl (lay.on (by decide) rfl) (Nat.le_of_ble_eq_true rfl) (Nat.le_of_ble_eq_true rfl) (Nat.zero_le _) (Nat.zero_le _) (ad) ?_
    rintro _ K1 ⟨rfl, lay1, rd1, tk1⟩
    have inf := c_Reader_isNumberFrom (d := d) (mc := 0) (ms := 0) lay1 (hM.rd rd1) tk1 uk (l := 0) (by omega)
    rw [hp] at inf
    have sg := c_Reader_sign0 (d := d + 1) (mc := 0) (ms := 0) lay1 (hM.rd rd1) tk1 uk p1 hx
    have hc1 : pm_ct K1 12 3 = (c : Int) := (by rw [rd1.1.ct (by decide)]; exact hc)
    show Wp _ 64 4 [(2, ((2 : Nat) : Int)), (2, ((12 : Nat) : Int))] [] K1 _ _ _
    refine g_aload_n lk_64_4 rfl ?_
    refine g_iconst lk_64_5 ?_
    refine g_virtual (p := 2) (Qc := _) lk_64_6 rfl (Nat.le_of_ble_eq_true rfl) rfl rfl (lay1.on (by decide) rfl) (Nat.le_of_ble_eq_true rfl) (Nat.le_of_ble_eq_true rfl) (Nat.zero_le _) (Nat.zero_le _) (inf) ?_
    rintro _ K2 ⟨lay2, re2, rfl, eK⟩
    rw [eK]
    show Wp _ 64 9 [(2, ((2 : Nat) : Int)), (2, ((12 : Nat) : Int))] [(0, 1)] K1 _ _ _
    refine g_if (t := 14) lk_64_9 rfl (by first | (unfold pm_inI; omega) | exact pm_and_in _ _ | exact pm_shr_in _ _ | exact pm_or_in _ _ | exact pm_xor_in _ _ | exact pm_shl_in _ _ | exact pm_cmp_in _ _ | exact pm_b8_in _ | (unfold pm_inI; split <;> omega)) (fun _ => ?_) (fun h => absurd (show ¬ (1 : Int) = (0 : Int) by omega) h)
    refine g_aload_n lk_64_14 rfl ?_
    refine g_iconst lk_64_15 ?_
    refine g_aload_n lk_64_16 rfl ?_
    refine g_iconst lk_64_17 ?_
    refine g_virtual (p := 2) (Qc := _) lk_64_18 rfl (Nat.le_of_ble_eq_true rfl) rfl rfl (lay1.on (by decide) rfl) (Nat.le_of_ble_eq_true rfl) (Nat.le_of_ble_eq_true rfl) (Nat.zero_le _) (Nat.zero_le _) (sg) ?_
    rintro _ N1 ⟨rfl, hN1⟩
    rw [hN1]
    show Wp _ 64 21 [(2, ((2 : Nat) : Int)), (2, ((12 : Nat) : Int))] [(0, (x : Int)), (0, 0), (2, ((12 : Nat) : Int))] K1 _ _ _
    refine g_bipush lk_64_21 ?_
    refine g_isub lk_64_23 ?_
    refine g_top (z := ((x : Int) - 48)) (z' := (v : Int)) (ev) ?_
    refine g_virtual (p := 12) (Qc := _) lk_64_24 rfl (Nat.le_of_ble_eq_true rfl) rfl rfl (lay1.on (by decide) rfl) (Nat.le_of_ble_eq_true rfl) (Nat.le_of_ble_eq_true rfl) (Nat.zero_le _) (Nat.zero_le _) (c_Nodes_addR1 (d := d + 1) (mc := 0) (ms := 0) (x := 0) lay1 hc1 c31) ?_
    rintro _ K3 ⟨rfl, lay3, ax⟩
    have ad3 := c_Reader_advance (d := d) (mc := 0) (ms := 0) lay3 ((ax.nd (by omega)).tc (by omega) (hM.rd rd1)) (ax.tk (by omega) tk1).2.2.2.1 uk.2.2.1
    show Wp _ 64 27 [(2, ((2 : Nat) : Int)), (2, ((12 : Nat) : Int))] [(0, (c : Int))] K3 _ _ _
    refine g_pop lk_64_27 rfl ?_
    refine g_aload_n lk_64_28 rfl ?_
    refine g_virtual (p := 2) (Qc := _) lk_64_29 rfl (Nat.le_of_ble_eq_true rfl) rfl rfl (lay3.on (by decide) rfl) (Nat.le_of_ble_eq_true rfl) (Nat.le_of_ble_eq_true rfl) (Nat.zero_le _) (Nat.zero_le _) (ad3) ?_
    rintro _ K4 ⟨rfl, lay4, rd4, tk4⟩
    show Wp _ 64 32 [(2, ((2 : Nat) : Int)), (2, ((12 : Nat) : Int))] [] K4 _ _ _
    refine g_iconst lk_64_32 ?_
    refine g_ireturn lk_64_33 (fun _ => by omega) ?_
    obtain ⟨a1, a2, a3⟩ := ax.at
    have b4 : Blw K3 K4 12 (c + 1) := rd4.blw (by omega)
    obtain ⟨q1, q2, q3⟩ := b4 c (by omega)
    exact ⟨lay4, (rd1.re.nd.trans (ax.nd (by omega))).trans rd4.re.nd, rfl, tk4, by rw [rd4.1.ct (by decide)]; exact ax.2.1, (fun i y hy => by
      cases i with
      | zero =>
        rw [List.getElem?_cons_zero] at hy
        cases hy
        exact ⟨q1.trans a1, q2.trans a2, q3.trans a3⟩
      | succ i => cases hy), ((rd1.blw (by omega)).trans ax.blw (Nat.le_refl _)).trans b4 (by omega), (rd1.sv.trans (ax.1.sv (by decide))).trans rd4.sv⟩
set_option maxHeartbeats 8000000 in
theorem c_Reader_readNode1 {n R C : Nat} {ch : Nat → Nat} (r6 : R ≤ 6) (c6 : C ≤ 6) : ∀ (f D mc ms : Nat) (M : pm_M) (dd c q : Nat) (t : Tok), f + 2 ≤ D → dd + f = 10 → dd ≤ 9 → Lay M → TcX M n ch → TkX M ch t → TkOK ch n t → pm_ct M 4 1 = (R : Int) → pm_ct M 4 2 = (C : Int) → pm_ct M 12 3 = (c : Int) → c ≤ 31 →
    pm_E D 63 [(2, ((2 : Nat) : Int)), (2, ((12 : Nat) : Int)), (0, (dd : Int))] M mc ms (fun ρ M' => Lay M' ∧ NdF 12 M M' ∧ ResX ρ M' (fun x => TkX M' ch x.2 ∧ pm_ct M' 12 3 = ((c + x.1.length : Nat) : Int) ∧ SgAt M' 12 c (x.1.map (fun y => y.1)) ∧ Blw M M' 12 c ∧ Sv M M') (pN ch n R C f dd c q t)) := by
  intro f
  induction f with
  | zero =>
    intro D mc ms M dd c q t _ g1 g2
    exfalso
    omega
  | succ f ih =>
    intro D mc ms M dd c q t g1 g2 g3 lay hM hT hK hR hC hc c31
    obtain ⟨d, rfl⟩ : ∃ d, D = d + 3 := ⟨D - 3, by omega⟩
    have n5 := hM.1
    have t4 := hK.1
    have f10 := hT.1
    have f13 := hT.2.2.2.2
    show Wp (d + 3) 63 0 [(2, ((2 : Nat) : Int)), (2, ((12 : Nat) : Int)), (0, (dd : Int)), (9, 0), (9, 0), (9, 0)] [] M mc ms _
    have rf2 := c_Reader_refuse (d := d + 2) (mc := 0) (ms := 0) lay hT hK.1 (w := 2)
    have rf5 := c_Reader_refuse (d := d + 2) (mc := 0) (ms := 0) lay hT hK.1 (w := 5)
    by_cases a : isNd ch t
    · have f10' : pm_ct M 2 10 = 1 := by rw [f10, a.1]; rfl
      have lt := hK.lt a.1
      obtain ⟨w1, w2, w3, w4, w5⟩ := w27_con lt
      have f13' : pm_ct M 2 13 = ((nr 27 (twd ch t) : Nat) : Int) := f13 a.1
      by_cases b : 9 ≤ dd ∨ 31 ≤ c
      · rw [pN_full a b]
        obtain ⟨w, hw⟩ : ∃ w, w = nr 27 (twd ch t) := ⟨_, rfl⟩
        have w3' : w = 239874 ∨ w = 1 ∨ w = 2 := by
          rw [hw]
          rcases a.2 with e | e | e
          · have := w5.mpr e; omega
          · have := w1.mpr e; omega
          · have := w2.mpr e; omega
        rw [← hw] at f13'
        clear ih w1 w2 w3 w4 w5 a
        refine g_aload_n lk_63_0 rfl ?_
        refine m_getfield (u := []) (M := M) lk_63_1 rfl (lay.on (by decide) rfl) (v := 1) f10' ?_
        refine g_iconst lk_63_4 ?_
        refine g_icmp (t := 33) lk_63_5 rfl (by first | (unfold pm_inI; omega) | exact pm_and_in _ _ | exact pm_shr_in _ _ | exact pm_or_in _ _ | exact pm_xor_in _ _ | exact pm_shl_in _ _ | exact pm_cmp_in _ _ | exact pm_b8_in _ | (unfold pm_inI; split <;> omega)) (by first | (unfold pm_inI; omega) | exact pm_and_in _ _ | exact pm_shr_in _ _ | exact pm_or_in _ _ | exact pm_xor_in _ _ | exact pm_shl_in _ _ | exact pm_cmp_in _ _ | exact pm_b8_in _ | (unfold pm_inI; split <;> omega)) (fun h => absurd h (show ¬ (¬ (1 : Int) = (1 : Int)) by omega)) (fun _ => ?_)
        refine g_aload_n lk_63_8 rfl ?_
        refine m_getfield (u := []) (M := M) lk_63_9 rfl (lay.on (by decide) rfl) (v := (w : Int)) f13' ?_
        refine g_ldc lk_63_12 ?_
        refine g_icmp (t := 39) lk_63_14 rfl (by first | (unfold pm_inI; omega) | exact pm_and_in _ _ | exact pm_shr_in _ _ | exact pm_or_in _ _ | exact pm_xor_in _ _ | exact pm_shl_in _ _ | exact pm_cmp_in _ _ | exact pm_b8_in _ | (unfold pm_inI; split <;> omega)) (by first | (unfold pm_inI; omega) | exact pm_and_in _ _ | exact pm_shr_in _ _ | exact pm_or_in _ _ | exact pm_xor_in _ _ | exact pm_shl_in _ _ | exact pm_cmp_in _ _ | exact pm_b8_in _ | (unfold pm_inI; split <;> omega)) (fun h1 => ?_) (fun h1 => ?_)
        · replace h1 : (w : Int) = 239874 := h1
          refine g_iload_n lk_63_39 rfl ?_
          refine g_bipush lk_63_40 ?_
          refine g_icmp (t := 54) lk_63_42 rfl (by first | (unfold pm_inI; omega) | exact pm_and_in _ _ | exact pm_shr_in _ _ | exact pm_or_in _ _ | exact pm_xor_in _ _ | exact pm_shl_in _ _ | exact pm_cmp_in _ _ | exact pm_b8_in _ | (unfold pm_inI; split <;> omega)) (by first | (unfold pm_inI; omega) | exact pm_and_in _ _ | exact pm_shr_in _ _ | exact pm_or_in _ _ | exact pm_xor_in _ _ | exact pm_shl_in _ _ | exact pm_cmp_in _ _ | exact pm_b8_in _ | (unfold pm_inI; split <;> omega)) (fun h2 => ?_) (fun h2 => ?_)
          · replace h2 : 9 ≤ (dd : Int) := h2
            refine g_aload_n lk_63_54 rfl ?_
            refine g_iconst lk_63_55 ?_
            refine g_virtual (p := 2) (Qc := _) lk_63_56 rfl (Nat.le_of_ble_eq_true rfl) rfl rfl (lay.on (by decide) rfl) (Nat.le_of_ble_eq_true rfl) (Nat.le_of_ble_eq_true rfl) (Nat.zero_le _) (Nat.zero_le _) (rf5) ?_
            rintro _ K1 ⟨rfl, lay1, re1, ft1⟩
            show Wp _ 63 59 [(2, ((2 : Nat) : Int)), (2, ((12 : Nat) : Int)), (0, (dd : Int)), (9, 0), (9, 0), (9, 0)] [(0, 0)] K1 _ _ _
            refine g_ireturn lk_63_59 (fun _ => by omega) ?_
            exact ⟨lay1, re1.nd, rfl, ft1⟩
          · replace h2 : ¬ (9 ≤ (dd : Int)) := h2
            refine g_aload_n lk_63_45 rfl ?_
            refine m_getfield (u := []) (M := M) lk_63_46 rfl (lay.on (by decide) rfl) (v := (c : Int)) hc ?_
            refine g_bipush lk_63_49 ?_
            refine g_icmp (t := 60) lk_63_51 rfl (by first | (unfold pm_inI; omega) | exact pm_and_in _ _ | exact pm_shr_in _ _ | exact pm_or_in _ _ | exact pm_xor_in _ _ | exact pm_shl_in _ _ | exact pm_cmp_in _ _ | exact pm_b8_in _ | (unfold pm_inI; split <;> omega)) (by first | (unfold pm_inI; omega) | exact pm_and_in _ _ | exact pm_shr_in _ _ | exact pm_or_in _ _ | exact pm_xor_in _ _ | exact pm_shl_in _ _ | exact pm_cmp_in _ _ | exact pm_b8_in _ | (unfold pm_inI; split <;> omega)) (fun h3 => ?_) (fun h3 => ?_)
            · replace h3 : (c : Int) < 31 := h3
              omega
            · replace h3 : ¬ ((c : Int) < 31) := h3
              refine g_aload_n lk_63_54 rfl ?_
              refine g_iconst lk_63_55 ?_
              refine g_virtual (p := 2) (Qc := _) lk_63_56 rfl (Nat.le_of_ble_eq_true rfl) rfl rfl (lay.on (by decide) rfl) (Nat.le_of_ble_eq_true rfl) (Nat.le_of_ble_eq_true rfl) (Nat.zero_le _) (Nat.zero_le _) (rf5) ?_
              rintro _ K1 ⟨rfl, lay1, re1, ft1⟩
              show Wp _ 63 59 [(2, ((2 : Nat) : Int)), (2, ((12 : Nat) : Int)), (0, (dd : Int)), (9, 0), (9, 0), (9, 0)] [(0, 0)] K1 _ _ _
              refine g_ireturn lk_63_59 (fun _ => by omega) ?_
              exact ⟨lay1, re1.nd, rfl, ft1⟩
        · replace h1 : ¬ ((w : Int) = 239874) := h1
          refine g_aload_n lk_63_17 rfl ?_
          refine m_getfield (u := []) (M := M) lk_63_18 rfl (lay.on (by decide) rfl) (v := (w : Int)) f13' ?_
          refine g_iconst lk_63_21 ?_
          refine g_icmp (t := 39) lk_63_22 rfl (by first | (unfold pm_inI; omega) | exact pm_and_in _ _ | exact pm_shr_in _ _ | exact pm_or_in _ _ | exact pm_xor_in _ _ | exact pm_shl_in _ _ | exact pm_cmp_in _ _ | exact pm_b8_in _ | (unfold pm_inI; split <;> omega)) (by first | (unfold pm_inI; omega) | exact pm_and_in _ _ | exact pm_shr_in _ _ | exact pm_or_in _ _ | exact pm_xor_in _ _ | exact pm_shl_in _ _ | exact pm_cmp_in _ _ | exact pm_b8_in _ | (unfold pm_inI; split <;> omega)) (fun h4 => ?_) (fun h4 => ?_)
          · replace h4 : (w : Int) = 1 := h4
            refine g_iload_n lk_63_39 rfl ?_
            refine g_bipush lk_63_40 ?_
            refine g_icmp (t := 54) lk_63_42 rfl (by first | (unfold pm_inI; omega) | exact pm_and_in _ _ | exact pm_shr_in _ _ | exact pm_or_in _ _ | exact pm_xor_in _ _ | exact pm_shl_in _ _ | exact pm_cmp_in _ _ | exact pm_b8_in _ | (unfold pm_inI; split <;> omega)) (by first | (unfold pm_inI; omega) | exact pm_and_in _ _ | exact pm_shr_in _ _ | exact pm_or_in _ _ | exact pm_xor_in _ _ | exact pm_shl_in _ _ | exact pm_cmp_in _ _ | exact pm_b8_in _ | (unfold pm_inI; split <;> omega)) (fun h5 => ?_) (fun h5 => ?_)
            · replace h5 : 9 ≤ (dd : Int) := h5
              refine g_aload_n lk_63_54 rfl ?_
              refine g_iconst lk_63_55 ?_
              refine g_virtual (p := 2) (Qc := _) lk_63_56 rfl (Nat.le_of_ble_eq_true rfl) rfl rfl (lay.on (by decide) rfl) (Nat.le_of_ble_eq_true rfl) (Nat.le_of_ble_eq_true rfl) (Nat.zero_le _) (Nat.zero_le _) (rf5) ?_
              rintro _ K1 ⟨rfl, lay1, re1, ft1⟩
              show Wp _ 63 59 [(2, ((2 : Nat) : Int)), (2, ((12 : Nat) : Int)), (0, (dd : Int)), (9, 0), (9, 0), (9, 0)] [(0, 0)] K1 _ _ _
              refine g_ireturn lk_63_59 (fun _ => by omega) ?_
              exact ⟨lay1, re1.nd, rfl, ft1⟩
            · replace h5 : ¬ (9 ≤ (dd : Int)) := h5
              refine g_aload_n lk_63_45 rfl ?_
              refine m_getfield (u := []) (M := M) lk_63_46 rfl (lay.on (by decide) rfl) (v := (c : Int)) hc ?_
              refine g_bipush lk_63_49 ?_
              refine g_icmp (t := 60) lk_63_51 rfl (by first | (unfold pm_inI; omega) | exact pm_and_in _ _ | exact pm_shr_in _ _ | exact pm_or_in _ _ | exact pm_xor_in _ _ | exact pm_shl_in _ _ | exact pm_cmp_in _ _ | exact pm_b8_in _ | (unfold pm_inI; split <;> omega)) (by first | (unfold pm_inI; omega) | exact pm_and_in _ _ | exact pm_shr_in _ _ | exact pm_or_in _ _ | exact pm_xor_in _ _ | exact pm_shl_in _ _ | exact pm_cmp_in _ _ | exact pm_b8_in _ | (unfold pm_inI; split <;> omega)) (fun h6 => ?_) (fun h6 => ?_)
              · replace h6 : (c : Int) < 31 := h6
                omega
              · replace h6 : ¬ ((c : Int) < 31) := h6
                refine g_aload_n lk_63_54 rfl ?_
                refine g_iconst lk_63_55 ?_
                refine g_virtual (p := 2) (Qc := _) lk_63_56 rfl (Nat.le_of_ble_eq_true rfl) rfl rfl (lay.on (by decide) rfl) (Nat.le_of_ble_eq_true rfl) (Nat.le_of_ble_eq_true rfl) (Nat.zero_le _) (Nat.zero_le _) (rf5) ?_
                rintro _ K1 ⟨rfl, lay1, re1, ft1⟩
                show Wp _ 63 59 [(2, ((2 : Nat) : Int)), (2, ((12 : Nat) : Int)), (0, (dd : Int)), (9, 0), (9, 0), (9, 0)] [(0, 0)] K1 _ _ _
                refine g_ireturn lk_63_59 (fun _ => by omega) ?_
                exact ⟨lay1, re1.nd, rfl, ft1⟩
          · replace h4 : ¬ ((w : Int) = 1) := h4
            refine g_aload_n lk_63_25 rfl ?_
            refine m_getfield (u := []) (M := M) lk_63_26 rfl (lay.on (by decide) rfl) (v := (w : Int)) f13' ?_
            refine g_iconst lk_63_29 ?_
            refine g_icmp (t := 39) lk_63_30 rfl (by first | (unfold pm_inI; omega) | exact pm_and_in _ _ | exact pm_shr_in _ _ | exact pm_or_in _ _ | exact pm_xor_in _ _ | exact pm_shl_in _ _ | exact pm_cmp_in _ _ | exact pm_b8_in _ | (unfold pm_inI; split <;> omega)) (by first | (unfold pm_inI; omega) | exact pm_and_in _ _ | exact pm_shr_in _ _ | exact pm_or_in _ _ | exact pm_xor_in _ _ | exact pm_shl_in _ _ | exact pm_cmp_in _ _ | exact pm_b8_in _ | (unfold pm_inI; split <;> omega)) (fun h7 => ?_) (fun h7 => ?_)
            · replace h7 : (w : Int) = 2 := h7
              refine g_iload_n lk_63_39 rfl ?_
              refine g_bipush lk_63_40 ?_
              refine g_icmp (t := 54) lk_63_42 rfl (by first | (unfold pm_inI; omega) | exact pm_and_in _ _ | exact pm_shr_in _ _ | exact pm_or_in _ _ | exact pm_xor_in _ _ | exact pm_shl_in _ _ | exact pm_cmp_in _ _ | exact pm_b8_in _ | (unfold pm_inI; split <;> omega)) (by first | (unfold pm_inI; omega) | exact pm_and_in _ _ | exact pm_shr_in _ _ | exact pm_or_in _ _ | exact pm_xor_in _ _ | exact pm_shl_in _ _ | exact pm_cmp_in _ _ | exact pm_b8_in _ | (unfold pm_inI; split <;> omega)) (fun h8 => ?_) (fun h8 => ?_)
              · replace h8 : 9 ≤ (dd : Int) := h8
                refine g_aload_n lk_63_54 rfl ?_
                refine g_iconst lk_63_55 ?_
                refine g_virtual (p := 2) (Qc := _) lk_63_56 rfl (Nat.le_of_ble_eq_true rfl) rfl rfl (lay.on (by decide) rfl) (Nat.le_of_ble_eq_true rfl) (Nat.le_of_ble_eq_true rfl) (Nat.zero_le _) (Nat.zero_le _) (rf5) ?_
                rintro _ K1 ⟨rfl, lay1, re1, ft1⟩
                show Wp _ 63 59 [(2, ((2 : Nat) : Int)), (2, ((12 : Nat) : Int)), (0, (dd : Int)), (9, 0), (9, 0), (9, 0)] [(0, 0)] K1 _ _ _
                refine g_ireturn lk_63_59 (fun _ => by omega) ?_
                exact ⟨lay1, re1.nd, rfl, ft1⟩
              · replace h8 : ¬ (9 ≤ (dd : Int)) := h8
                refine g_aload_n lk_63_45 rfl ?_
                refine m_getfield (u := []) (M := M) lk_63_46 rfl (lay.on (by decide) rfl) (v := (c : Int)) hc ?_
                refine g_bipush lk_63_49 ?_
                refine g_icmp (t := 60) lk_63_51 rfl (by first | (unfold pm_inI; omega) | exact pm_and_in _ _ | exact pm_shr_in _ _ | exact pm_or_in _ _ | exact pm_xor_in _ _ | exact pm_shl_in _ _ | exact pm_cmp_in _ _ | exact pm_b8_in _ | (unfold pm_inI; split <;> omega)) (by first | (unfold pm_inI; omega) | exact pm_and_in _ _ | exact pm_shr_in _ _ | exact pm_or_in _ _ | exact pm_xor_in _ _ | exact pm_shl_in _ _ | exact pm_cmp_in _ _ | exact pm_b8_in _ | (unfold pm_inI; split <;> omega)) (fun h9 => ?_) (fun h9 => ?_)
                · replace h9 : (c : Int) < 31 := h9
                  omega
                · replace h9 : ¬ ((c : Int) < 31) := h9
                  refine g_aload_n lk_63_54 rfl ?_
                  refine g_iconst lk_63_55 ?_
                  refine g_virtual (p := 2) (Qc := _) lk_63_56 rfl (Nat.le_of_ble_eq_true rfl) rfl rfl (lay.on (by decide) rfl) (Nat.le_of_ble_eq_true rfl) (Nat.le_of_ble_eq_true rfl) (Nat.zero_le _) (Nat.zero_le _) (rf5) ?_
                  rintro _ K1 ⟨rfl, lay1, re1, ft1⟩
                  show Wp _ 63 59 [(2, ((2 : Nat) : Int)), (2, ((12 : Nat) : Int)), (0, (dd : Int)), (9, 0), (9, 0), (9, 0)] [(0, 0)] K1 _ _ _
                  refine g_ireturn lk_63_59 (fun _ => by omega) ?_
                  exact ⟨lay1, re1.nd, rfl, ft1⟩
            · replace h7 : ¬ ((w : Int) = 2) := h7
              omega
      · have c30 : c < 31 := by omega
        have d8 : dd < 9 := by omega
        by_cases g : twd ch t = wLeaf
        · have f13x : pm_ct M 2 13 = 239874 := by rw [f13']; exact w5.mpr g
          have rl := c_Reader_readLeaf1 (d := d) (mc := 0) (ms := 0) lay hM hT hK hc c30
          clear ih w1 w2 w3 w4 w5
          cases hp : pNum ch 0 (lxt ch n t.2.2) with
          | inl e =>
            rw [pN_lf0 a b g hp]
            rw [hp] at rl
            refine g_aload_n lk_63_0 rfl ?_
            refine m_getfield (u := []) (M := M) lk_63_1 rfl (lay.on (by decide) rfl) (v := 1) f10' ?_
            refine g_iconst lk_63_4 ?_
            refine g_icmp (t := 33) lk_63_5 rfl (by first | (unfold pm_inI; omega) | exact pm_and_in _ _ | exact pm_shr_in _ _ | exact pm_or_in _ _ | exact pm_xor_in _ _ | exact pm_shl_in _ _ | exact pm_cmp_in _ _ | exact pm_b8_in _ | (unfold pm_inI; split <;> omega)) (by first | (unfold pm_inI; omega) | exact pm_and_in _ _ | exact pm_shr_in _ _ | exact pm_or_in _ _ | exact pm_xor_in _ _ | exact pm_shl_in _ _ | exact pm_cmp_in _ _ | exact pm_b8_in _ | (unfold pm_inI; split <;> omega)) (fun h => absurd h (show ¬ (¬ (1 : Int) = (1 : Int)) by omega)) (fun _ => ?_)
            refine g_aload_n lk_63_8 rfl ?_
            refine m_getfield (u := []) (M := M) lk_63_9 rfl (lay.on (by decide) rfl) (v := 239874) f13x ?_
            refine g_ldc lk_63_12 ?_
            refine g_icmp (t := 39) lk_63_14 rfl (by first | (unfold pm_inI; omega) | exact pm_and_in _ _ | exact pm_shr_in _ _ | exact pm_or_in _ _ | exact pm_xor_in _ _ | exact pm_shl_in _ _ | exact pm_cmp_in _ _ | exact pm_b8_in _ | (unfold pm_inI; split <;> omega)) (by first | (unfold pm_inI; omega) | exact pm_and_in _ _ | exact pm_shr_in _ _ | exact pm_or_in _ _ | exact pm_xor_in _ _ | exact pm_shl_in _ _ | exact pm_cmp_in _ _ | exact pm_b8_in _ | (unfold pm_inI; split <;> omega)) (fun _ => ?_) (fun h => absurd (show (239874 : Int) = (239874 : Int) by omega) h)
            refine g_iload_n lk_63_39 rfl ?_
            refine g_bipush lk_63_40 ?_
            refine g_icmp (t := 54) lk_63_42 rfl (by first | (unfold pm_inI; omega) | exact pm_and_in _ _ | exact pm_shr_in _ _ | exact pm_or_in _ _ | exact pm_xor_in _ _ | exact pm_shl_in _ _ | exact pm_cmp_in _ _ | exact pm_b8_in _ | (unfold pm_inI; split <;> omega)) (by first | (unfold pm_inI; omega) | exact pm_and_in _ _ | exact pm_shr_in _ _ | exact pm_or_in _ _ | exact pm_xor_in _ _ | exact pm_shl_in _ _ | exact pm_cmp_in _ _ | exact pm_b8_in _ | (unfold pm_inI; split <;> omega)) (fun h1 => ?_) (fun h1 => ?_)
            · replace h1 : 9 ≤ (dd : Int) := h1
              omega
            · replace h1 : ¬ (9 ≤ (dd : Int)) := h1
              refine g_aload_n lk_63_45 rfl ?_
              refine m_getfield (u := []) (M := M) lk_63_46 rfl (lay.on (by decide) rfl) (v := (c : Int)) hc ?_
              refine g_bipush lk_63_49 ?_
              refine g_icmp (t := 60) lk_63_51 rfl (by first | (unfold pm_inI; omega) | exact pm_and_in _ _ | exact pm_shr_in _ _ | exact pm_or_in _ _ | exact pm_xor_in _ _ | exact pm_shl_in _ _ | exact pm_cmp_in _ _ | exact pm_b8_in _ | (unfold pm_inI; split <;> omega)) (by first | (unfold pm_inI; omega) | exact pm_and_in _ _ | exact pm_shr_in _ _ | exact pm_or_in _ _ | exact pm_xor_in _ _ | exact pm_shl_in _ _ | exact pm_cmp_in _ _ | exact pm_b8_in _ | (unfold pm_inI; split <;> omega)) (fun h2 => ?_) (fun h2 => ?_)
              · replace h2 : (c : Int) < 31 := h2
                refine g_aload_n lk_63_60 rfl ?_
                refine m_getfield (u := []) (M := M) lk_63_61 rfl (lay.on (by decide) rfl) (v := 239874) f13x ?_
                refine g_ldc lk_63_64 ?_
                refine g_icmp (t := 75) lk_63_66 rfl (by first | (unfold pm_inI; omega) | exact pm_and_in _ _ | exact pm_shr_in _ _ | exact pm_or_in _ _ | exact pm_xor_in _ _ | exact pm_shl_in _ _ | exact pm_cmp_in _ _ | exact pm_b8_in _ | (unfold pm_inI; split <;> omega)) (by first | (unfold pm_inI; omega) | exact pm_and_in _ _ | exact pm_shr_in _ _ | exact pm_or_in _ _ | exact pm_xor_in _ _ | exact pm_shl_in _ _ | exact pm_cmp_in _ _ | exact pm_b8_in _ | (unfold pm_inI; split <;> omega)) (fun h => absurd h (show ¬ (¬ (239874 : Int) = (239874 : Int)) by omega)) (fun _ => ?_)
                refine g_aload_n lk_63_69 rfl ?_
                refine g_aload_n lk_63_70 rfl ?_
                refine g_virtual (p := 2) (Qc := _) lk_63_71 rfl (Nat.le_of_ble_eq_true rfl) rfl rfl (lay.on (by decide) rfl) (Nat.le_of_ble_eq_true rfl) (Nat.le_of_ble_eq_true rfl) (Nat.zero_le _) (Nat.zero_le _) (rl) ?_
                rintro _ K1 ⟨lay1, nf1, rfl, ft1⟩
                show Wp _ 63 74 [(2, ((2 : Nat) : Int)), (2, ((12 : Nat) : Int)), (0, (dd : Int)), (9, 0), (9, 0), (9, 0)] [(0, 0)] K1 _ _ _
                refine g_ireturn lk_63_74 (fun _ => by omega) ?_
                exact ⟨lay1, nf1, rfl, ft1⟩
              · replace h2 : ¬ ((c : Int) < 31) := h2
                omega
          | inr v =>
            rw [pN_lf1 a b g hp]
            rw [hp] at rl
            refine g_aload_n lk_63_0 rfl ?_
            refine m_getfield (u := []) (M := M) lk_63_1 rfl (lay.on (by decide) rfl) (v := 1) f10' ?_
            refine g_iconst lk_63_4 ?_
            refine g_icmp (t := 33) lk_63_5 rfl (by first | (unfold pm_inI; omega) | exact pm_and_in _ _ | exact pm_shr_in _ _ | exact pm_or_in _ _ | exact pm_xor_in _ _ | exact pm_shl_in _ _ | exact pm_cmp_in _ _ | exact pm_b8_in _ | (unfold pm_inI; split <;> omega)) (by first | (unfold pm_inI; omega) | exact pm_and_in _ _ | exact pm_shr_in _ _ | exact pm_or_in _ _ | exact pm_xor_in _ _ | exact pm_shl_in _ _ | exact pm_cmp_in _ _ | exact pm_b8_in _ | (unfold pm_inI; split <;> omega)) (fun h => absurd h (show ¬ (¬ (1 : Int) = (1 : Int)) by omega)) (fun _ => ?_)
            refine g_aload_n lk_63_8 rfl ?_
            refine m_getfield (u := []) (M := M) lk_63_9 rfl (lay.on (by decide) rfl) (v := 239874) f13x ?_
            refine g_ldc lk_63_12 ?_
            refine g_icmp (t := 39) lk_63_14 rfl (by first | (unfold pm_inI; omega) | exact pm_and_in _ _ | exact pm_shr_in _ _ | exact pm_or_in _ _ | exact pm_xor_in _ _ | exact pm_shl_in _ _ | exact pm_cmp_in _ _ | exact pm_b8_in _ | (unfold pm_inI; split <;> omega)) (by first | (unfold pm_inI; omega) | exact pm_and_in _ _ | exact pm_shr_in _ _ | exact pm_or_in _ _ | exact pm_xor_in _ _ | exact pm_shl_in _ _ | exact pm_cmp_in _ _ | exact pm_b8_in _ | (unfold pm_inI; split <;> omega)) (fun _ => ?_) (fun h => absurd (show (239874 : Int) = (239874 : Int) by omega) h)
            refine g_iload_n lk_63_39 rfl ?_
            refine g_bipush lk_63_40 ?_
            refine g_icmp (t := 54) lk_63_42 rfl (by first | (unfold pm_inI; omega) | exact pm_and_in _ _ | exact pm_shr_in _ _ | exact pm_or_in _ _ | exact pm_xor_in _ _ | exact pm_shl_in _ _ | exact pm_cmp_in _ _ | exact pm_b8_in _ | (unfold pm_inI; split <;> omega)) (by first | (unfold pm_inI; omega) | exact pm_and_in _ _ | exact pm_shr_in _ _ | exact pm_or_in _ _ | exact pm_xor_in _ _ | exact pm_shl_in _ _ | exact pm_cmp_in _ _ | exact pm_b8_in _ | (unfold pm_inI; split <;> omega)) (fun h1 => ?_) (fun h1 => ?_)
            · replace h1 : 9 ≤ (dd : Int) := h1
              omega
            · replace h1 : ¬ (9 ≤ (dd : Int)) := h1
              refine g_aload_n lk_63_45 rfl ?_
              refine m_getfield (u := []) (M := M) lk_63_46 rfl (lay.on (by decide) rfl) (v := (c : Int)) hc ?_
              refine g_bipush lk_63_49 ?_
              refine g_icmp (t := 60) lk_63_51 rfl (by first | (unfold pm_inI; omega) | exact pm_and_in _ _ | exact pm_shr_in _ _ | exact pm_or_in _ _ | exact pm_xor_in _ _ | exact pm_shl_in _ _ | exact pm_cmp_in _ _ | exact pm_b8_in _ | (unfold pm_inI; split <;> omega)) (by first | (unfold pm_inI; omega) | exact pm_and_in _ _ | exact pm_shr_in _ _ | exact pm_or_in _ _ | exact pm_xor_in _ _ | exact pm_shl_in _ _ | exact pm_cmp_in _ _ | exact pm_b8_in _ | (unfold pm_inI; split <;> omega)) (fun h2 => ?_) (fun h2 => ?_)
              · replace h2 : (c : Int) < 31 := h2
                refine g_aload_n lk_63_60 rfl ?_
                refine m_getfield (u := []) (M := M) lk_63_61 rfl (lay.on (by decide) rfl) (v := 239874) f13x ?_
                refine g_ldc lk_63_64 ?_
                refine g_icmp (t := 75) lk_63_66 rfl (by first | (unfold pm_inI; omega) | exact pm_and_in _ _ | exact pm_shr_in _ _ | exact pm_or_in _ _ | exact pm_xor_in _ _ | exact pm_shl_in _ _ | exact pm_cmp_in _ _ | exact pm_b8_in _ | (unfold pm_inI; split <;> omega)) (by first | (unfold pm_inI; omega) | exact pm_and_in _ _ | exact pm_shr_in _ _ | exact pm_or_in _ _ | exact pm_xor_in _ _ | exact pm_shl_in _ _ | exact pm_cmp_in _ _ | exact pm_b8_in _ | (unfold pm_inI; split <;> omega)) (fun h => absurd h (show ¬ (¬ (239874 : Int) = (239874 : Int)) by omega)) (fun _ => ?_)
                refine g_aload_n lk_63_69 rfl ?_
                refine g_aload_n lk_63_70 rfl ?_
                refine g_virtual (p := 2) (Qc := _) lk_63_71 rfl (Nat.le_of_ble_eq_true rfl) rfl rfl (lay.on (by decide) rfl) (Nat.le_of_ble_eq_true rfl) (Nat.le_of_ble_eq_true rfl) (Nat.zero_le _) (Nat.zero_le _) (rl) ?_
                rintro _ K1 ⟨lay1, nf1, rfl, x1⟩
                show Wp _ 63 74 [(2, ((2 : Nat) : Int)), (2, ((12 : Nat) : Int)), (0, (dd : Int)), (9, 0), (9, 0), (9, 0)] [(0, 1)] K1 _ _ _
                refine g_ireturn lk_63_74 (fun _ => by omega) ?_
                exact ⟨lay1, nf1, rfl, x1⟩
              · replace h2 : ¬ ((c : Int) < 31) := h2
                omega
        · have u1 := (lxt_ok (ch := ch) hK.2.2.1 n5).1
          have u2 := (lxt_ok (ch := ch) u1.2.2.1 n5).1
          have ad := c_Reader_advance (d := d + 1) (mc := 0) (ms := 0) lay hM hT.2.2.2.1 hK.2.2.1
          by_cases y : twd ch t = wdA
          · have em : (if twd ch t = wdA then R else C) = R := if_pos y
            have ex : (if twd ch t = wdA then 1 else 2) = 1 := if_pos y
            have f13x : pm_ct M 2 13 = 1 := by rw [f13']; exact w1.mpr y
            cases hp : pSet ch (if twd ch t = wdA then R else C) (lxt ch n t.2.2) with
            | inl e =>
              rw [pN_nd0 a b g hp]
              rw [em] at hp
              clear ih w1 w2 w3 w4 w5
              refine g_aload_n lk_63_0 rfl ?_
              refine m_getfield (u := []) (M := M) lk_63_1 rfl (lay.on (by decide) rfl) (v := 1) f10' ?_
              refine g_iconst lk_63_4 ?_
              refine g_icmp (t := 33) lk_63_5 rfl (by first | (unfold pm_inI; omega) | exact pm_and_in _ _ | exact pm_shr_in _ _ | exact pm_or_in _ _ | exact pm_xor_in _ _ | exact pm_shl_in _ _ | exact pm_cmp_in _ _ | exact pm_b8_in _ | (unfold pm_inI; split <;> omega)) (by first | (unfold pm_inI; omega) | exact pm_and_in _ _ | exact pm_shr_in _ _ | exact pm_or_in _ _ | exact pm_xor_in _ _ | exact pm_shl_in _ _ | exact pm_cmp_in _ _ | exact pm_b8_in _ | (unfold pm_inI; split <;> omega)) (fun h => absurd h (show ¬ (¬ (1 : Int) = (1 : Int)) by omega)) (fun _ => ?_)
              refine g_aload_n lk_63_8 rfl ?_
              refine m_getfield (u := []) (M := M) lk_63_9 rfl (lay.on (by decide) rfl) (v := 1) f13x ?_
              refine g_ldc lk_63_12 ?_
              refine g_icmp (t := 39) lk_63_14 rfl (by first | (unfold pm_inI; omega) | exact pm_and_in _ _ | exact pm_shr_in _ _ | exact pm_or_in _ _ | exact pm_xor_in _ _ | exact pm_shl_in _ _ | exact pm_cmp_in _ _ | exact pm_b8_in _ | (unfold pm_inI; split <;> omega)) (by first | (unfold pm_inI; omega) | exact pm_and_in _ _ | exact pm_shr_in _ _ | exact pm_or_in _ _ | exact pm_xor_in _ _ | exact pm_shl_in _ _ | exact pm_cmp_in _ _ | exact pm_b8_in _ | (unfold pm_inI; split <;> omega)) (fun h => absurd h (show ¬ ((1 : Int) = (239874 : Int)) by omega)) (fun _ => ?_)
              refine g_aload_n lk_63_17 rfl ?_
              refine m_getfield (u := []) (M := M) lk_63_18 rfl (lay.on (by decide) rfl) (v := 1) f13x ?_
              refine g_iconst lk_63_21 ?_
              refine g_icmp (t := 39) lk_63_22 rfl (by first | (unfold pm_inI; omega) | exact pm_and_in _ _ | exact pm_shr_in _ _ | exact pm_or_in _ _ | exact pm_xor_in _ _ | exact pm_shl_in _ _ | exact pm_cmp_in _ _ | exact pm_b8_in _ | (unfold pm_inI; split <;> omega)) (by first | (unfold pm_inI; omega) | exact pm_and_in _ _ | exact pm_shr_in _ _ | exact pm_or_in _ _ | exact pm_xor_in _ _ | exact pm_shl_in _ _ | exact pm_cmp_in _ _ | exact pm_b8_in _ | (unfold pm_inI; split <;> omega)) (fun _ => ?_) (fun h => absurd (show (1 : Int) = (1 : Int) by omega) h)
              refine g_iload_n lk_63_39 rfl ?_
              refine g_bipush lk_63_40 ?_
              refine g_icmp (t := 54) lk_63_42 rfl (by first | (unfold pm_inI; omega) | exact pm_and_in _ _ | exact pm_shr_in _ _ | exact pm_or_in _ _ | exact pm_xor_in _ _ | exact pm_shl_in _ _ | exact pm_cmp_in _ _ | exact pm_b8_in _ | (unfold pm_inI; split <;> omega)) (by first | (unfold pm_inI; omega) | exact pm_and_in _ _ | exact pm_shr_in _ _ | exact pm_or_in _ _ | exact pm_xor_in _ _ | exact pm_shl_in _ _ | exact pm_cmp_in _ _ | exact pm_b8_in _ | (unfold pm_inI; split <;> omega)) (fun h1 => ?_) (fun h1 => ?_)
              · replace h1 : 9 ≤ (dd : Int) := h1
                omega
              · replace h1 : ¬ (9 ≤ (dd : Int)) := h1
                refine g_aload_n lk_63_45 rfl ?_
                refine m_getfield (u := []) (M := M) lk_63_46 rfl (lay.on (by decide) rfl) (v := (c : Int)) hc ?_
                refine g_bipush lk_63_49 ?_
                refine g_icmp (t := 60) lk_63_51 rfl (by first | (unfold pm_inI; omega) | exact pm_and_in _ _ | exact pm_shr_in _ _ | exact pm_or_in _ _ | exact pm_xor_in _ _ | exact pm_shl_in _ _ | exact pm_cmp_in _ _ | exact pm_b8_in _ | (unfold pm_inI; split <;> omega)) (by first | (unfold pm_inI; omega) | exact pm_and_in _ _ | exact pm_shr_in _ _ | exact pm_or_in _ _ | exact pm_xor_in _ _ | exact pm_shl_in _ _ | exact pm_cmp_in _ _ | exact pm_b8_in _ | (unfold pm_inI; split <;> omega)) (fun h2 => ?_) (fun h2 => ?_)
                · replace h2 : (c : Int) < 31 := h2
                  refine g_aload_n lk_63_60 rfl ?_
                  refine m_getfield (u := []) (M := M) lk_63_61 rfl (lay.on (by decide) rfl) (v := 1) f13x ?_
                  refine g_ldc lk_63_64 ?_
                  refine g_icmp (t := 75) lk_63_66 rfl (by first | (unfold pm_inI; omega) | exact pm_and_in _ _ | exact pm_shr_in _ _ | exact pm_or_in _ _ | exact pm_xor_in _ _ | exact pm_shl_in _ _ | exact pm_cmp_in _ _ | exact pm_b8_in _ | (unfold pm_inI; split <;> omega)) (by first | (unfold pm_inI; omega) | exact pm_and_in _ _ | exact pm_shr_in _ _ | exact pm_or_in _ _ | exact pm_xor_in _ _ | exact pm_shl_in _ _ | exact pm_cmp_in _ _ | exact pm_b8_in _ | (unfold pm_inI; split <;> omega)) (fun _ => ?_) (fun h => absurd (show ¬ (1 : Int) = (239874 : Int) by omega) h)
                  refine g_aload_n lk_63_75 rfl ?_
                  refine m_getfield (u := []) (M := M) lk_63_76 rfl (lay.on (by decide) rfl) (v := 1) f13x ?_
                  refine g_iconst lk_63_79 ?_
                  refine g_icmp (t := 87) lk_63_80 rfl (by first | (unfold pm_inI; omega) | exact pm_and_in _ _ | exact pm_shr_in _ _ | exact pm_or_in _ _ | exact pm_xor_in _ _ | exact pm_shl_in _ _ | exact pm_cmp_in _ _ | exact pm_b8_in _ | (unfold pm_inI; split <;> omega)) (by first | (unfold pm_inI; omega) | exact pm_and_in _ _ | exact pm_shr_in _ _ | exact pm_or_in _ _ | exact pm_xor_in _ _ | exact pm_shl_in _ _ | exact pm_cmp_in _ _ | exact pm_b8_in _ | (unfold pm_inI; split <;> omega)) (fun h => absurd h (show ¬ (¬ (1 : Int) = (1 : Int)) by omega)) (fun _ => ?_)
                  refine g_iconst lk_63_83 ?_
                  refine g_goto (t := 88) lk_63_84 rfl ?_
                  refine g_istore_n (ls' := [(2, ((2 : Nat) : Int)), (2, ((12 : Nat) : Int)), (0, (dd : Int)), (0, 1), (9, 0), (9, 0)]) lk_63_88 rfl rfl ?_
                  refine g_aload_n lk_63_89 rfl ?_
                  refine g_virtual (p := 2) (Qc := _) lk_63_90 rfl (Nat.le_of_ble_eq_true rfl) rfl rfl (lay.on (by decide) rfl) (Nat.le_of_ble_eq_true rfl) (Nat.le_of_ble_eq_true rfl) (Nat.zero_le _) (Nat.zero_le _) (ad) ?_
                  rintro _ K1 ⟨rfl, lay1, rd1, tk1⟩
                  have f4 : pm_ct K1 4 1 = (R : Int) := (by rw [rd1.1.ct (by decide)]; exact hR)
                  have hc1 : pm_ct K1 12 3 = (c : Int) := (by rw [rd1.1.ct (by decide)]; exact hc)
                  show Wp _ 63 93 [(2, ((2 : Nat) : Int)), (2, ((12 : Nat) : Int)), (0, (dd : Int)), (0, 1), (9, 0), (9, 0)] [] K1 _ _ _
                  refine g_aload_n lk_63_93 rfl ?_
                  refine g_iload_n lk_63_94 rfl ?_
                  refine g_if (t := 108) lk_63_95 rfl (by first | (unfold pm_inI; omega) | exact pm_and_in _ _ | exact pm_shr_in _ _ | exact pm_or_in _ _ | exact pm_xor_in _ _ | exact pm_shl_in _ _ | exact pm_cmp_in _ _ | exact pm_b8_in _ | (unfold pm_inI; split <;> omega)) (fun h => absurd h (show ¬ ((1 : Int) = (0 : Int)) by omega)) (fun _ => ?_)
                  refine g_aload_n lk_63_98 rfl ?_
                  refine g_getfield lk_63_99 rfl (lay1.on (by decide) rfl) (v := ((4 : Nat) : Int)) (lay1.rf rfl) ?_
                  refine m_getfield (u := []) (M := K1) lk_63_102 rfl (lay1.on (by decide) rfl) (v := (R : Int)) f4 ?_
                  refine g_goto (t := 115) lk_63_105 rfl ?_
                  refine g_virtual (p := 2) (Qc := _) lk_63_115 rfl (Nat.le_of_ble_eq_true rfl) rfl rfl (lay1.on (by decide) rfl) (Nat.le_of_ble_eq_true rfl) (Nat.le_of_ble_eq_true rfl) (Nat.zero_le _) (Nat.zero_le _) (c_Reader_readSet (d := d + 1) (mc := 0) (ms := 0) lay1 (hM.rd rd1) tk1 u1 r6) ?_
                  rintro ρ2 K2 ⟨lay2, re2, o2⟩
                  obtain ⟨rfl, ft2⟩ := set_inl hp o2
                  show Wp _ 63 118 [(2, ((2 : Nat) : Int)), (2, ((12 : Nat) : Int)), (0, (dd : Int)), (0, 1), (9, 0), (9, 0)] [(0, 0)] K2 _ _ _
                  refine g_istore (ls' := [(2, ((2 : Nat) : Int)), (2, ((12 : Nat) : Int)), (0, (dd : Int)), (0, 1), (0, 0), (9, 0)]) lk_63_118 rfl rfl ?_
                  refine g_iload lk_63_120 rfl ?_
                  refine g_if (t := 127) lk_63_122 rfl (by first | (unfold pm_inI; omega) | exact pm_and_in _ _ | exact pm_shr_in _ _ | exact pm_or_in _ _ | exact pm_xor_in _ _ | exact pm_shl_in _ _ | exact pm_cmp_in _ _ | exact pm_b8_in _ | (unfold pm_inI; split <;> omega)) (fun h => absurd h (show ¬ (¬ (0 : Int) = (0 : Int)) by omega)) (fun _ => ?_)
                  refine g_iconst lk_63_125 ?_
                  refine g_ireturn lk_63_126 (fun _ => by omega) ?_
                  exact ⟨lay2, rd1.re.nd.trans re2.nd, rfl, ft2⟩
                · replace h2 : ¬ ((c : Int) < 31) := h2
                  omega
            | inr s =>
              cases k1 : pN ch n R C f (dd + 1) (c + 1) c (lxt ch n (lxt ch n t.2.2).2.2) with
              | inl e =>
                rw [pN_nd1 a b g hp k1]
                rw [em] at hp
                clear w1 w2 w3 w4 w5
                refine g_aload_n lk_63_0 rfl ?_
                refine m_getfield (u := []) (M := M) lk_63_1 rfl (lay.on (by decide) rfl) (v := 1) f10' ?_
                refine g_iconst lk_63_4 ?_
                refine g_icmp (t := 33) lk_63_5 rfl (by first | (unfold pm_inI; omega) | exact pm_and_in _ _ | exact pm_shr_in _ _ | exact pm_or_in _ _ | exact pm_xor_in _ _ | exact pm_shl_in _ _ | exact pm_cmp_in _ _ | exact pm_b8_in _ | (unfold pm_inI; split <;> omega)) (by first | (unfold pm_inI; omega) | exact pm_and_in _ _ | exact pm_shr_in _ _ | exact pm_or_in _ _ | exact pm_xor_in _ _ | exact pm_shl_in _ _ | exact pm_cmp_in _ _ | exact pm_b8_in _ | (unfold pm_inI; split <;> omega)) (fun h => absurd h (show ¬ (¬ (1 : Int) = (1 : Int)) by omega)) (fun _ => ?_)
                refine g_aload_n lk_63_8 rfl ?_
                refine m_getfield (u := []) (M := M) lk_63_9 rfl (lay.on (by decide) rfl) (v := 1) f13x ?_
                refine g_ldc lk_63_12 ?_
                refine g_icmp (t := 39) lk_63_14 rfl (by first | (unfold pm_inI; omega) | exact pm_and_in _ _ | exact pm_shr_in _ _ | exact pm_or_in _ _ | exact pm_xor_in _ _ | exact pm_shl_in _ _ | exact pm_cmp_in _ _ | exact pm_b8_in _ | (unfold pm_inI; split <;> omega)) (by first | (unfold pm_inI; omega) | exact pm_and_in _ _ | exact pm_shr_in _ _ | exact pm_or_in _ _ | exact pm_xor_in _ _ | exact pm_shl_in _ _ | exact pm_cmp_in _ _ | exact pm_b8_in _ | (unfold pm_inI; split <;> omega)) (fun h => absurd h (show ¬ ((1 : Int) = (239874 : Int)) by omega)) (fun _ => ?_)
                refine g_aload_n lk_63_17 rfl ?_
                refine m_getfield (u := []) (M := M) lk_63_18 rfl (lay.on (by decide) rfl) (v := 1) f13x ?_
                refine g_iconst lk_63_21 ?_
                refine g_icmp (t := 39) lk_63_22 rfl (by first | (unfold pm_inI; omega) | exact pm_and_in _ _ | exact pm_shr_in _ _ | exact pm_or_in _ _ | exact pm_xor_in _ _ | exact pm_shl_in _ _ | exact pm_cmp_in _ _ | exact pm_b8_in _ | (unfold pm_inI; split <;> omega)) (by first | (unfold pm_inI; omega) | exact pm_and_in _ _ | exact pm_shr_in _ _ | exact pm_or_in _ _ | exact pm_xor_in _ _ | exact pm_shl_in _ _ | exact pm_cmp_in _ _ | exact pm_b8_in _ | (unfold pm_inI; split <;> omega)) (fun _ => ?_) (fun h => absurd (show (1 : Int) = (1 : Int) by omega) h)
                refine g_iload_n lk_63_39 rfl ?_
                refine g_bipush lk_63_40 ?_
                refine g_icmp (t := 54) lk_63_42 rfl (by first | (unfold pm_inI; omega) | exact pm_and_in _ _ | exact pm_shr_in _ _ | exact pm_or_in _ _ | exact pm_xor_in _ _ | exact pm_shl_in _ _ | exact pm_cmp_in _ _ | exact pm_b8_in _ | (unfold pm_inI; split <;> omega)) (by first | (unfold pm_inI; omega) | exact pm_and_in _ _ | exact pm_shr_in _ _ | exact pm_or_in _ _ | exact pm_xor_in _ _ | exact pm_shl_in _ _ | exact pm_cmp_in _ _ | exact pm_b8_in _ | (unfold pm_inI; split <;> omega)) (fun h1 => ?_) (fun h1 => ?_)
                · replace h1 : 9 ≤ (dd : Int) := h1
                  omega
                · replace h1 : ¬ (9 ≤ (dd : Int)) := h1
                  refine g_aload_n lk_63_45 rfl ?_
                  refine m_getfield (u := []) (M := M) lk_63_46 rfl (lay.on (by decide) rfl) (v := (c : Int)) hc ?_
                  refine g_bipush lk_63_49 ?_
                  refine g_icmp (t := 60) lk_63_51 rfl (by first | (unfold pm_inI; omega) | exact pm_and_in _ _ | exact pm_shr_in _ _ | exact pm_or_in _ _ | exact pm_xor_in _ _ | exact pm_shl_in _ _ | exact pm_cmp_in _ _ | exact pm_b8_in _ | (unfold pm_inI; split <;> omega)) (by first | (unfold pm_inI; omega) | exact pm_and_in _ _ | exact pm_shr_in _ _ | exact pm_or_in _ _ | exact pm_xor_in _ _ | exact pm_shl_in _ _ | exact pm_cmp_in _ _ | exact pm_b8_in _ | (unfold pm_inI; split <;> omega)) (fun h2 => ?_) (fun h2 => ?_)
                  · replace h2 : (c : Int) < 31 := h2
                    refine g_aload_n lk_63_60 rfl ?_
                    refine m_getfield (u := []) (M := M) lk_63_61 rfl (lay.on (by decide) rfl) (v := 1) f13x ?_
                    refine g_ldc lk_63_64 ?_
                    refine g_icmp (t := 75) lk_63_66 rfl (by first | (unfold pm_inI; omega) | exact pm_and_in _ _ | exact pm_shr_in _ _ | exact pm_or_in _ _ | exact pm_xor_in _ _ | exact pm_shl_in _ _ | exact pm_cmp_in _ _ | exact pm_b8_in _ | (unfold pm_inI; split <;> omega)) (by first | (unfold pm_inI; omega) | exact pm_and_in _ _ | exact pm_shr_in _ _ | exact pm_or_in _ _ | exact pm_xor_in _ _ | exact pm_shl_in _ _ | exact pm_cmp_in _ _ | exact pm_b8_in _ | (unfold pm_inI; split <;> omega)) (fun _ => ?_) (fun h => absurd (show ¬ (1 : Int) = (239874 : Int) by omega) h)
                    refine g_aload_n lk_63_75 rfl ?_
                    refine m_getfield (u := []) (M := M) lk_63_76 rfl (lay.on (by decide) rfl) (v := 1) f13x ?_
                    refine g_iconst lk_63_79 ?_
                    refine g_icmp (t := 87) lk_63_80 rfl (by first | (unfold pm_inI; omega) | exact pm_and_in _ _ | exact pm_shr_in _ _ | exact pm_or_in _ _ | exact pm_xor_in _ _ | exact pm_shl_in _ _ | exact pm_cmp_in _ _ | exact pm_b8_in _ | (unfold pm_inI; split <;> omega)) (by first | (unfold pm_inI; omega) | exact pm_and_in _ _ | exact pm_shr_in _ _ | exact pm_or_in _ _ | exact pm_xor_in _ _ | exact pm_shl_in _ _ | exact pm_cmp_in _ _ | exact pm_b8_in _ | (unfold pm_inI; split <;> omega)) (fun h => absurd h (show ¬ (¬ (1 : Int) = (1 : Int)) by omega)) (fun _ => ?_)
                    refine g_iconst lk_63_83 ?_
                    refine g_goto (t := 88) lk_63_84 rfl ?_
                    refine g_istore_n (ls' := [(2, ((2 : Nat) : Int)), (2, ((12 : Nat) : Int)), (0, (dd : Int)), (0, 1), (9, 0), (9, 0)]) lk_63_88 rfl rfl ?_
                    refine g_aload_n lk_63_89 rfl ?_
                    refine g_virtual (p := 2) (Qc := _) lk_63_90 rfl (Nat.le_of_ble_eq_true rfl) rfl rfl (lay.on (by decide) rfl) (Nat.le_of_ble_eq_true rfl) (Nat.le_of_ble_eq_true rfl) (Nat.zero_le _) (Nat.zero_le _) (ad) ?_
                    rintro _ K1 ⟨rfl, lay1, rd1, tk1⟩
                    have f4 : pm_ct K1 4 1 = (R : Int) := (by rw [rd1.1.ct (by decide)]; exact hR)
                    have hc1 : pm_ct K1 12 3 = (c : Int) := (by rw [rd1.1.ct (by decide)]; exact hc)
                    show Wp _ 63 93 [(2, ((2 : Nat) : Int)), (2, ((12 : Nat) : Int)), (0, (dd : Int)), (0, 1), (9, 0), (9, 0)] [] K1 _ _ _
                    refine g_aload_n lk_63_93 rfl ?_
                    refine g_iload_n lk_63_94 rfl ?_
                    refine g_if (t := 108) lk_63_95 rfl (by first | (unfold pm_inI; omega) | exact pm_and_in _ _ | exact pm_shr_in _ _ | exact pm_or_in _ _ | exact pm_xor_in _ _ | exact pm_shl_in _ _ | exact pm_cmp_in _ _ | exact pm_b8_in _ | (unfold pm_inI; split <;> omega)) (fun h => absurd h (show ¬ ((1 : Int) = (0 : Int)) by omega)) (fun _ => ?_)
                    refine g_aload_n lk_63_98 rfl ?_
                    refine g_getfield lk_63_99 rfl (lay1.on (by decide) rfl) (v := ((4 : Nat) : Int)) (lay1.rf rfl) ?_
                    refine m_getfield (u := []) (M := K1) lk_63_102 rfl (lay1.on (by decide) rfl) (v := (R : Int)) f4 ?_
                    refine g_goto (t := 115) lk_63_105 rfl ?_
                    refine g_virtual (p := 2) (Qc := _) lk_63_115 rfl (Nat.le_of_ble_eq_true rfl) rfl rfl (lay1.on (by decide) rfl) (Nat.le_of_ble_eq_true rfl) (Nat.le_of_ble_eq_true rfl) (Nat.zero_le _) (Nat.zero_le _) (c_Reader_readSet (d := d + 1) (mc := 0) (ms := 0) lay1 (hM.rd rd1) tk1 u1 r6) ?_
                    rintro ρ2 K2 ⟨lay2, re2, o2⟩
                    obtain ⟨s1, s2, rfl, eK⟩ := set_inr hp o2
                    rw [eK]
                    show Wp _ 63 118 [(2, ((2 : Nat) : Int)), (2, ((12 : Nat) : Int)), (0, (dd : Int)), (0, 1), (9, 0), (9, 0)] [(0, (s : Int))] K1 _ _ _
                    refine g_istore (ls' := [(2, ((2 : Nat) : Int)), (2, ((12 : Nat) : Int)), (0, (dd : Int)), (0, 1), (0, (s : Int)), (9, 0)]) lk_63_118 rfl rfl ?_
                    refine g_iload lk_63_120 rfl ?_
                    refine g_if (t := 127) lk_63_122 rfl (by first | (unfold pm_inI; omega) | exact pm_and_in _ _ | exact pm_shr_in _ _ | exact pm_or_in _ _ | exact pm_xor_in _ _ | exact pm_shl_in _ _ | exact pm_cmp_in _ _ | exact pm_b8_in _ | (unfold pm_inI; split <;> omega)) (fun h3 => ?_) (fun h3 => ?_)
                    · replace h3 : ¬ (s : Int) = 0 := h3
                      refine g_aload_n lk_63_127 rfl ?_
                      refine g_iload_n lk_63_128 rfl ?_
                      refine g_if (t := 136) lk_63_129 rfl (by first | (unfold pm_inI; omega) | exact pm_and_in _ _ | exact pm_shr_in _ _ | exact pm_or_in _ _ | exact pm_xor_in _ _ | exact pm_shl_in _ _ | exact pm_cmp_in _ _ | exact pm_b8_in _ | (unfold pm_inI; split <;> omega)) (fun h => absurd h (show ¬ ((1 : Int) = (0 : Int)) by omega)) (fun _ => ?_)
                      refine g_iconst lk_63_132 ?_
                      refine g_goto (t := 137) lk_63_133 rfl ?_
                      refine g_iload lk_63_137 rfl ?_
                      refine g_virtual (p := 12) (Qc := _) lk_63_139 rfl (Nat.le_of_ble_eq_true rfl) rfl rfl (lay1.on (by decide) rfl) (Nat.le_of_ble_eq_true rfl) (Nat.le_of_ble_eq_true rfl) (Nat.zero_le _) (Nat.zero_le _) (c_Nodes_addR1 (d := d + 2) (mc := 0) (ms := 0) (x := 1) (y := s) lay1 hc1 c30) ?_
                      rintro _ K3 ⟨rfl, lay3, ax⟩
                      have tc3 := (ax.nd (by omega)).tc (by omega) (hM.rd rd1)
                      have ad3 := c_Reader_advance (d := d + 1) (mc := 0) (ms := 0) lay3 tc3 (ax.tk (by omega) tk1).2.2.2.1 u1.2.2.1
                      show Wp _ 63 142 [(2, ((2 : Nat) : Int)), (2, ((12 : Nat) : Int)), (0, (dd : Int)), (0, 1), (0, (s : Int)), (9, 0)] [(0, (c : Int))] K3 _ _ _
                      refine g_istore (ls' := [(2, ((2 : Nat) : Int)), (2, ((12 : Nat) : Int)), (0, (dd : Int)), (0, 1), (0, (s : Int)), (0, (c : Int))]) lk_63_142 rfl rfl ?_
                      refine g_aload_n lk_63_144 rfl ?_
                      refine g_virtual (p := 2) (Qc := _) lk_63_145 rfl (Nat.le_of_ble_eq_true rfl) rfl rfl (lay3.on (by decide) rfl) (Nat.le_of_ble_eq_true rfl) (Nat.le_of_ble_eq_true rfl) (Nat.zero_le _) (Nat.zero_le _) (ad3) ?_
                      rintro _ K4 ⟨rfl, lay4, rd4, tk4⟩
                      have F4 : NdF 12 M K4 := (rd1.re.nd.trans (ax.nd (by omega))).trans rd4.re.nd
                      have x3 : Blw M K4 12 c := ((rd1.blw (by omega)).trans ax.blw (Nat.le_refl _)).trans (rd4.blw (c := c) (by omega)) (Nat.le_refl _)
                      have x1 : pm_ct K4 13 c = (1 : Int) := (by rw [rd4.1.ct (by decide)]; exact ax.at.1)
                      have x2 : pm_ct K4 14 c = (s : Int) := (by rw [rd4.1.ct (by decide)]; exact ax.at.2.1)
                      have sv4 : Sv M K4 := (rd1.sv.trans (ax.1.sv (by decide))).trans rd4.sv
                      have g4 := ih (d + 2) 0 0 K4 (dd + 1) (c + 1) c _ (by omega) (by omega) (by omega) lay4 (tc3.rd rd4) tk4 u2 (by rw [F4.c (by omega) (Or.inr rfl)]; exact hR) (by rw [F4.c (by omega) (Or.inr rfl)]; exact hC) (by rw [rd4.1.ct (by decide)]; exact ax.2.1) (by omega)
                      rw [k1] at g4
                      show Wp _ 63 148 [(2, ((2 : Nat) : Int)), (2, ((12 : Nat) : Int)), (0, (dd : Int)), (0, 1), (0, (s : Int)), (0, (c : Int))] [] K4 _ _ _
                      refine g_iload lk_63_148 rfl ?_
                      refine g_if (t := 164) lk_63_150 rfl (by first | (unfold pm_inI; omega) | exact pm_and_in _ _ | exact pm_shr_in _ _ | exact pm_or_in _ _ | exact pm_xor_in _ _ | exact pm_shl_in _ _ | exact pm_cmp_in _ _ | exact pm_b8_in _ | (unfold pm_inI; split <;> omega)) (fun h4 => ?_) (fun h4 => ?_)
                      · replace h4 : (c : Int) < 0 := h4
                        refine g_iconst lk_63_164 ?_
                        refine g_ireturn lk_63_165 (fun _ => by omega) ?_
                        first | exact ⟨lay5, F4.trans nf5, rfl, ft5⟩ | (exfalso; omega)
                      · replace h4 : ¬ ((c : Int) < 0) := h4
                        refine g_aload_n lk_63_153 rfl ?_
                        refine g_aload_n lk_63_154 rfl ?_
                        refine g_iload_n lk_63_155 rfl ?_
                        refine g_iconst lk_63_156 ?_
                        refine g_iadd lk_63_157 ?_
                        refine g_virtual (p := 2) (Qc := _) lk_63_158 rfl (Nat.le_of_ble_eq_true rfl) rfl rfl (lay4.on (by decide) rfl) (Nat.le_of_ble_eq_true rfl) (Nat.le_of_ble_eq_true rfl) (Nat.zero_le _) (Nat.zero_le _) (g4) ?_
                        rintro _ K5 ⟨lay5, nf5, rfl, ft5⟩
                        show Wp _ 63 161 [(2, ((2 : Nat) : Int)), (2, ((12 : Nat) : Int)), (0, (dd : Int)), (0, 1), (0, (s : Int)), (0, (c : Int))] [(0, 0)] K5 _ _ _
                        refine g_if (t := 166) lk_63_161 rfl (by first | (unfold pm_inI; omega) | exact pm_and_in _ _ | exact pm_shr_in _ _ | exact pm_or_in _ _ | exact pm_xor_in _ _ | exact pm_shl_in _ _ | exact pm_cmp_in _ _ | exact pm_b8_in _ | (unfold pm_inI; split <;> omega)) (fun h => absurd h (show ¬ (¬ (0 : Int) = (0 : Int)) by omega)) (fun _ => ?_)
                        refine g_iconst lk_63_164 ?_
                        refine g_ireturn lk_63_165 (fun _ => by omega) ?_
                        first | exact ⟨lay5, F4.trans nf5, rfl, ft5⟩ | (exfalso; omega)
                    · replace h3 : ¬ (¬ (s : Int) = 0) := h3
                      refine g_iconst lk_63_125 ?_
                      refine g_ireturn lk_63_126 (fun _ => by omega) ?_
                      first | exact ⟨lay5, F4.trans nf5, rfl, ft5⟩ | (exfalso; omega)
                  · replace h2 : ¬ ((c : Int) < 31) := h2
                    omega
              | inr y1 =>
                obtain ⟨L1, t1⟩ := y1
                obtain ⟨v1, v2, v3⟩ := pN_ok n5 f u2 k1
                have step : ∀ K4 K5 : pm_M, Lay K5 → NdF 12 M K4 → NdF 12 K4 K5 → pm_ct K4 13 c = (1 : Int) → pm_ct K4 14 c = (s : Int) → Blw M K4 12 c → TkX K5 ch t1 → pm_ct K5 12 3 = ((c + 1 + L1.length : Nat) : Int) → SgAt K5 12 (c + 1) (L1.map (fun y => y.1)) → Blw K4 K5 12 (c + 1) → Sv M K5 → Wp (d + 3) 63 166 [(2, ((2 : Nat) : Int)), (2, ((12 : Nat) : Int)), (0, (dd : Int)), (0, 1), (0, (s : Int)), (0, (c : Int))] [] K5 mc ms (fun ρ M' => Lay M' ∧ NdF 12 M M' ∧ ResX ρ M' (fun x => TkX M' ch x.2 ∧ pm_ct M' 12 3 = ((c + x.1.length : Nat) : Int) ∧ SgAt M' 12 c (x.1.map (fun y => y.1)) ∧ Blw M M' 12 c ∧ Sv M M') (pN ch n R C (f + 1) dd c q t)) := by
                  intro K4 K5 lay5 F4 F5 x1 x2 x3 tk5 ct5 sg5 bl5 sv5
                  cases k2 : pN ch n R C f (dd + 1) (c + 1 + L1.length) c t1 with
                  | inl e =>
                    rw [pN_nd2 a b g hp k1 k2]
                    refine g_aload_n lk_63_166 rfl ?_
                    refine g_getfield lk_63_167 rfl (lay5.on (by decide) rfl) (v := ((15 : Nat) : Int)) (lay5.rf rfl) ?_
                    refine g_iload lk_63_170 rfl ?_
                    refine g_aload_n lk_63_172 rfl ?_
                    refine m_getfield (u := []) (M := K5) lk_63_173 rfl (lay5.on (by decide) rfl) (v := ((c + 1 + L1.length : Nat) : Int)) ct5 ?_
                    have lay1 : Lay (Mu [(15, pm_upd (pm_ct K5 15) c ((c + 1 + L1.length : Nat) : Int))] K5) := lay5.muA (l := []) (a := 15) (f := pm_upd (pm_ct K5 15) c ((c + 1 + L1.length : Nat) : Int)) rfl rfl
                    refine m_iastore (u := []) (u' := [(15, pm_upd (pm_ct K5 15) c ((c + 1 + L1.length : Nat) : Int))]) (M := K5) lk_63_176 (lay5.ay (by decide) rfl) (by omega) (j := c) (by omega) rfl ?_
                    refine g_aload_n lk_63_177 rfl ?_
                    refine g_aload_n lk_63_178 rfl ?_
                    refine g_iload_n lk_63_179 rfl ?_
                    refine g_iconst lk_63_180 ?_
                    refine g_iadd lk_63_181 ?_
                    have fM : Fr [15] K5 (Mu [(15, pm_upd (pm_ct K5 15) c ((c + 1 + L1.length : Nat) : Int))] K5) := Fr.mu _ _ rfl
                    have F6 : NdF 12 M (Mu [(15, pm_upd (pm_ct K5 15) c ((c + 1 + L1.length : Nat) : Int))] K5) := (F4.trans F5).trans (Fr.nd3 (P := 12) fM (by omega))
                    have g5 := ih (d + 2) 0 0 (Mu [(15, pm_upd (pm_ct K5 15) c ((c + 1 + L1.length : Nat) : Int))] K5) (dd + 1) (c + 1 + L1.length) c t1 (by omega) (by omega) (by omega) lay1 (F6.tc (by omega) hM) (Fr.tk3 (P := 12) fM (by omega) tk5) v1 (by rw [F6.c (by omega) (Or.inr rfl)]; exact hR) (by rw [F6.c (by omega) (Or.inr rfl)]; exact hC) (by rw [fM.ct (by decide)]; exact ct5) (by omega)
                    rw [k2] at g5
                    refine g_virtual (p := 2) (Qc := _) lk_63_182 rfl (Nat.le_of_ble_eq_true rfl) rfl rfl (lay1.on (by decide) rfl) (Nat.le_of_ble_eq_true rfl) (Nat.le_of_ble_eq_true rfl) (Nat.zero_le _) (Nat.zero_le _) g5 ?_
                    rintro _ K7 ⟨lay7, nf7, rfl, ft7⟩
                    refine g_ireturn lk_63_185 (fun _ => by omega) ?_
                    exact ⟨lay7, F6.trans nf7, rfl, ft7⟩
                  | inr y2 =>
                    obtain ⟨L2, t2⟩ := y2
                    rw [pN_nd3 a b g hp k1 k2, ex]
                    refine g_aload_n lk_63_166 rfl ?_
                    refine g_getfield lk_63_167 rfl (lay5.on (by decide) rfl) (v := ((15 : Nat) : Int)) (lay5.rf rfl) ?_
                    refine g_iload lk_63_170 rfl ?_
                    refine g_aload_n lk_63_172 rfl ?_
                    refine m_getfield (u := []) (M := K5) lk_63_173 rfl (lay5.on (by decide) rfl) (v := ((c + 1 + L1.length : Nat) : Int)) ct5 ?_
                    have lay1 : Lay (Mu [(15, pm_upd (pm_ct K5 15) c ((c + 1 + L1.length : Nat) : Int))] K5) := lay5.muA (l := []) (a := 15) (f := pm_upd (pm_ct K5 15) c ((c + 1 + L1.length : Nat) : Int)) rfl rfl
                    refine m_iastore (u := []) (u' := [(15, pm_upd (pm_ct K5 15) c ((c + 1 + L1.length : Nat) : Int))]) (M := K5) lk_63_176 (lay5.ay (by decide) rfl) (by omega) (j := c) (by omega) rfl ?_
                    refine g_aload_n lk_63_177 rfl ?_
                    refine g_aload_n lk_63_178 rfl ?_
                    refine g_iload_n lk_63_179 rfl ?_
                    refine g_iconst lk_63_180 ?_
                    refine g_iadd lk_63_181 ?_
                    have fM : Fr [15] K5 (Mu [(15, pm_upd (pm_ct K5 15) c ((c + 1 + L1.length : Nat) : Int))] K5) := Fr.mu _ _ rfl
                    have F6 : NdF 12 M (Mu [(15, pm_upd (pm_ct K5 15) c ((c + 1 + L1.length : Nat) : Int))] K5) := (F4.trans F5).trans (Fr.nd3 (P := 12) fM (by omega))
                    have m3 : pm_ct (Mu [(15, pm_upd (pm_ct K5 15) c ((c + 1 + L1.length : Nat) : Int))] K5) 15 = pm_upd (pm_ct K5 15) c ((c + 1 + L1.length : Nat) : Int) := by rw [Mu_ct]; rfl
                    have m1 : pm_ct (Mu [(15, pm_upd (pm_ct K5 15) c ((c + 1 + L1.length : Nat) : Int))] K5) 13 = pm_ct K5 13 := fM.ct (by decide)
                    have m2 : pm_ct (Mu [(15, pm_upd (pm_ct K5 15) c ((c + 1 + L1.length : Nat) : Int))] K5) 14 = pm_ct K5 14 := fM.ct (by decide)
                    have g5 := ih (d + 2) 0 0 (Mu [(15, pm_upd (pm_ct K5 15) c ((c + 1 + L1.length : Nat) : Int))] K5) (dd + 1) (c + 1 + L1.length) c t1 (by omega) (by omega) (by omega) lay1 (F6.tc (by omega) hM) (Fr.tk3 (P := 12) fM (by omega) tk5) v1 (by rw [F6.c (by omega) (Or.inr rfl)]; exact hR) (by rw [F6.c (by omega) (Or.inr rfl)]; exact hC) (by rw [fM.ct (by decide)]; exact ct5) (by omega)
                    rw [k2] at g5
                    refine g_virtual (p := 2) (Qc := _) lk_63_182 rfl (Nat.le_of_ble_eq_true rfl) rfl rfl (lay1.on (by decide) rfl) (Nat.le_of_ble_eq_true rfl) (Nat.le_of_ble_eq_true rfl) (Nat.zero_le _) (Nat.zero_le _) g5 ?_
                    rintro _ K7 ⟨lay7, nf7, rfl, tk7, ct7, sg7, bl7, sv7⟩
                    refine g_ireturn lk_63_185 (fun _ => by omega) ?_
                    refine ⟨lay7, F6.trans nf7, rfl, tk7, ?_, ?_, ?_, (sv5.trans (fM.sv (by decide))).trans sv7⟩
                    · show pm_ct K7 12 3 = ((c + (L1 ++ L2).length.succ : Nat) : Int)
                      rw [List.length_append, show c + (L1.length + L2.length).succ = c + 1 + L1.length + L2.length by omega]
                      exact ct7
                    · rw [List.map_cons, List.map_append]
                      exact SgAt.join (P := 12) x1 x2 bl5 sg5 m1 m2 m3 (by rw [List.length_map]; exact bl7) (by rw [List.length_map]; exact sg7)
                    · exact ((x3.trans bl5 (by omega)).trans (Blw.put (P := 12) m1 m2 m3) (Nat.le_refl _)).trans bl7 (by omega)
                clear w1 w2 w3 w4 w5
                have hp' := hp
                rw [em] at hp'
                refine g_aload_n lk_63_0 rfl ?_
                refine m_getfield (u := []) (M := M) lk_63_1 rfl (lay.on (by decide) rfl) (v := 1) f10' ?_
                refine g_iconst lk_63_4 ?_
                refine g_icmp (t := 33) lk_63_5 rfl (by first | (unfold pm_inI; omega) | exact pm_and_in _ _ | exact pm_shr_in _ _ | exact pm_or_in _ _ | exact pm_xor_in _ _ | exact pm_shl_in _ _ | exact pm_cmp_in _ _ | exact pm_b8_in _ | (unfold pm_inI; split <;> omega)) (by first | (unfold pm_inI; omega) | exact pm_and_in _ _ | exact pm_shr_in _ _ | exact pm_or_in _ _ | exact pm_xor_in _ _ | exact pm_shl_in _ _ | exact pm_cmp_in _ _ | exact pm_b8_in _ | (unfold pm_inI; split <;> omega)) (fun h => absurd h (show ¬ (¬ (1 : Int) = (1 : Int)) by omega)) (fun _ => ?_)
                refine g_aload_n lk_63_8 rfl ?_
                refine m_getfield (u := []) (M := M) lk_63_9 rfl (lay.on (by decide) rfl) (v := 1) f13x ?_
                refine g_ldc lk_63_12 ?_
                refine g_icmp (t := 39) lk_63_14 rfl (by first | (unfold pm_inI; omega) | exact pm_and_in _ _ | exact pm_shr_in _ _ | exact pm_or_in _ _ | exact pm_xor_in _ _ | exact pm_shl_in _ _ | exact pm_cmp_in _ _ | exact pm_b8_in _ | (unfold pm_inI; split <;> omega)) (by first | (unfold pm_inI; omega) | exact pm_and_in _ _ | exact pm_shr_in _ _ | exact pm_or_in _ _ | exact pm_xor_in _ _ | exact pm_shl_in _ _ | exact pm_cmp_in _ _ | exact pm_b8_in _ | (unfold pm_inI; split <;> omega)) (fun h => absurd h (show ¬ ((1 : Int) = (239874 : Int)) by omega)) (fun _ => ?_)
                refine g_aload_n lk_63_17 rfl ?_
                refine m_getfield (u := []) (M := M) lk_63_18 rfl (lay.on (by decide) rfl) (v := 1) f13x ?_
                refine g_iconst lk_63_21 ?_
                refine g_icmp (t := 39) lk_63_22 rfl (by first | (unfold pm_inI; omega) | exact pm_and_in _ _ | exact pm_shr_in _ _ | exact pm_or_in _ _ | exact pm_xor_in _ _ | exact pm_shl_in _ _ | exact pm_cmp_in _ _ | exact pm_b8_in _ | (unfold pm_inI; split <;> omega)) (by first | (unfold pm_inI; omega) | exact pm_and_in _ _ | exact pm_shr_in _ _ | exact pm_or_in _ _ | exact pm_xor_in _ _ | exact pm_shl_in _ _ | exact pm_cmp_in _ _ | exact pm_b8_in _ | (unfold pm_inI; split <;> omega)) (fun _ => ?_) (fun h => absurd (show (1 : Int) = (1 : Int) by omega) h)
                refine g_iload_n lk_63_39 rfl ?_
                refine g_bipush lk_63_40 ?_
                refine g_icmp (t := 54) lk_63_42 rfl (by first | (unfold pm_inI; omega) | exact pm_and_in _ _ | exact pm_shr_in _ _ | exact pm_or_in _ _ | exact pm_xor_in _ _ | exact pm_shl_in _ _ | exact pm_cmp_in _ _ | exact pm_b8_in _ | (unfold pm_inI; split <;> omega)) (by first | (unfold pm_inI; omega) | exact pm_and_in _ _ | exact pm_shr_in _ _ | exact pm_or_in _ _ | exact pm_xor_in _ _ | exact pm_shl_in _ _ | exact pm_cmp_in _ _ | exact pm_b8_in _ | (unfold pm_inI; split <;> omega)) (fun h1 => ?_) (fun h1 => ?_)
                · replace h1 : 9 ≤ (dd : Int) := h1
                  omega
                · replace h1 : ¬ (9 ≤ (dd : Int)) := h1
                  refine g_aload_n lk_63_45 rfl ?_
                  refine m_getfield (u := []) (M := M) lk_63_46 rfl (lay.on (by decide) rfl) (v := (c : Int)) hc ?_
                  refine g_bipush lk_63_49 ?_
                  refine g_icmp (t := 60) lk_63_51 rfl (by first | (unfold pm_inI; omega) | exact pm_and_in _ _ | exact pm_shr_in _ _ | exact pm_or_in _ _ | exact pm_xor_in _ _ | exact pm_shl_in _ _ | exact pm_cmp_in _ _ | exact pm_b8_in _ | (unfold pm_inI; split <;> omega)) (by first | (unfold pm_inI; omega) | exact pm_and_in _ _ | exact pm_shr_in _ _ | exact pm_or_in _ _ | exact pm_xor_in _ _ | exact pm_shl_in _ _ | exact pm_cmp_in _ _ | exact pm_b8_in _ | (unfold pm_inI; split <;> omega)) (fun h2 => ?_) (fun h2 => ?_)
                  · replace h2 : (c : Int) < 31 := h2
                    refine g_aload_n lk_63_60 rfl ?_
                    refine m_getfield (u := []) (M := M) lk_63_61 rfl (lay.on (by decide) rfl) (v := 1) f13x ?_
                    refine g_ldc lk_63_64 ?_
                    refine g_icmp (t := 75) lk_63_66 rfl (by first | (unfold pm_inI; omega) | exact pm_and_in _ _ | exact pm_shr_in _ _ | exact pm_or_in _ _ | exact pm_xor_in _ _ | exact pm_shl_in _ _ | exact pm_cmp_in _ _ | exact pm_b8_in _ | (unfold pm_inI; split <;> omega)) (by first | (unfold pm_inI; omega) | exact pm_and_in _ _ | exact pm_shr_in _ _ | exact pm_or_in _ _ | exact pm_xor_in _ _ | exact pm_shl_in _ _ | exact pm_cmp_in _ _ | exact pm_b8_in _ | (unfold pm_inI; split <;> omega)) (fun _ => ?_) (fun h => absurd (show ¬ (1 : Int) = (239874 : Int) by omega) h)
                    refine g_aload_n lk_63_75 rfl ?_
                    refine m_getfield (u := []) (M := M) lk_63_76 rfl (lay.on (by decide) rfl) (v := 1) f13x ?_
                    refine g_iconst lk_63_79 ?_
                    refine g_icmp (t := 87) lk_63_80 rfl (by first | (unfold pm_inI; omega) | exact pm_and_in _ _ | exact pm_shr_in _ _ | exact pm_or_in _ _ | exact pm_xor_in _ _ | exact pm_shl_in _ _ | exact pm_cmp_in _ _ | exact pm_b8_in _ | (unfold pm_inI; split <;> omega)) (by first | (unfold pm_inI; omega) | exact pm_and_in _ _ | exact pm_shr_in _ _ | exact pm_or_in _ _ | exact pm_xor_in _ _ | exact pm_shl_in _ _ | exact pm_cmp_in _ _ | exact pm_b8_in _ | (unfold pm_inI; split <;> omega)) (fun h => absurd h (show ¬ (¬ (1 : Int) = (1 : Int)) by omega)) (fun _ => ?_)
                    refine g_iconst lk_63_83 ?_
                    refine g_goto (t := 88) lk_63_84 rfl ?_
                    refine g_istore_n (ls' := [(2, ((2 : Nat) : Int)), (2, ((12 : Nat) : Int)), (0, (dd : Int)), (0, 1), (9, 0), (9, 0)]) lk_63_88 rfl rfl ?_
                    refine g_aload_n lk_63_89 rfl ?_
                    refine g_virtual (p := 2) (Qc := _) lk_63_90 rfl (Nat.le_of_ble_eq_true rfl) rfl rfl (lay.on (by decide) rfl) (Nat.le_of_ble_eq_true rfl) (Nat.le_of_ble_eq_true rfl) (Nat.zero_le _) (Nat.zero_le _) (ad) ?_
                    rintro _ K1 ⟨rfl, lay1, rd1, tk1⟩
                    have f4 : pm_ct K1 4 1 = (R : Int) := (by rw [rd1.1.ct (by decide)]; exact hR)
                    have hc1 : pm_ct K1 12 3 = (c : Int) := (by rw [rd1.1.ct (by decide)]; exact hc)
                    show Wp _ 63 93 [(2, ((2 : Nat) : Int)), (2, ((12 : Nat) : Int)), (0, (dd : Int)), (0, 1), (9, 0), (9, 0)] [] K1 _ _ _
                    refine g_aload_n lk_63_93 rfl ?_
                    refine g_iload_n lk_63_94 rfl ?_
                    refine g_if (t := 108) lk_63_95 rfl (by first | (unfold pm_inI; omega) | exact pm_and_in _ _ | exact pm_shr_in _ _ | exact pm_or_in _ _ | exact pm_xor_in _ _ | exact pm_shl_in _ _ | exact pm_cmp_in _ _ | exact pm_b8_in _ | (unfold pm_inI; split <;> omega)) (fun h => absurd h (show ¬ ((1 : Int) = (0 : Int)) by omega)) (fun _ => ?_)
                    refine g_aload_n lk_63_98 rfl ?_
                    refine g_getfield lk_63_99 rfl (lay1.on (by decide) rfl) (v := ((4 : Nat) : Int)) (lay1.rf rfl) ?_
                    refine m_getfield (u := []) (M := K1) lk_63_102 rfl (lay1.on (by decide) rfl) (v := (R : Int)) f4 ?_
                    refine g_goto (t := 115) lk_63_105 rfl ?_
                    refine g_virtual (p := 2) (Qc := _) lk_63_115 rfl (Nat.le_of_ble_eq_true rfl) rfl rfl (lay1.on (by decide) rfl) (Nat.le_of_ble_eq_true rfl) (Nat.le_of_ble_eq_true rfl) (Nat.zero_le _) (Nat.zero_le _) (c_Reader_readSet (d := d + 1) (mc := 0) (ms := 0) lay1 (hM.rd rd1) tk1 u1 r6) ?_
                    rintro ρ2 K2 ⟨lay2, re2, o2⟩
                    obtain ⟨s1, s2, rfl, eK⟩ := set_inr hp' o2
                    rw [eK]
                    show Wp _ 63 118 [(2, ((2 : Nat) : Int)), (2, ((12 : Nat) : Int)), (0, (dd : Int)), (0, 1), (9, 0), (9, 0)] [(0, (s : Int))] K1 _ _ _
                    refine g_istore (ls' := [(2, ((2 : Nat) : Int)), (2, ((12 : Nat) : Int)), (0, (dd : Int)), (0, 1), (0, (s : Int)), (9, 0)]) lk_63_118 rfl rfl ?_
                    refine g_iload lk_63_120 rfl ?_
                    refine g_if (t := 127) lk_63_122 rfl (by first | (unfold pm_inI; omega) | exact pm_and_in _ _ | exact pm_shr_in _ _ | exact pm_or_in _ _ | exact pm_xor_in _ _ | exact pm_shl_in _ _ | exact pm_cmp_in _ _ | exact pm_b8_in _ | (unfold pm_inI; split <;> omega)) (fun h3 => ?_) (fun h3 => ?_)
                    · replace h3 : ¬ (s : Int) = 0 := h3
                      refine g_aload_n lk_63_127 rfl ?_
                      refine g_iload_n lk_63_128 rfl ?_
                      refine g_if (t := 136) lk_63_129 rfl (by first | (unfold pm_inI; omega) | exact pm_and_in _ _ | exact pm_shr_in _ _ | exact pm_or_in _ _ | exact pm_xor_in _ _ | exact pm_shl_in _ _ | exact pm_cmp_in _ _ | exact pm_b8_in _ | (unfold pm_inI; split <;> omega)) (fun h => absurd h (show ¬ ((1 : Int) = (0 : Int)) by omega)) (fun _ => ?_)
                      refine g_iconst lk_63_132 ?_
                      refine g_goto (t := 137) lk_63_133 rfl ?_
                      refine g_iload lk_63_137 rfl ?_
                      refine g_virtual (p := 12) (Qc := _) lk_63_139 rfl (Nat.le_of_ble_eq_true rfl) rfl rfl (lay1.on (by decide) rfl) (Nat.le_of_ble_eq_true rfl) (Nat.le_of_ble_eq_true rfl) (Nat.zero_le _) (Nat.zero_le _) (c_Nodes_addR1 (d := d + 2) (mc := 0) (ms := 0) (x := 1) (y := s) lay1 hc1 c30) ?_
                      rintro _ K3 ⟨rfl, lay3, ax⟩
                      have tc3 := (ax.nd (by omega)).tc (by omega) (hM.rd rd1)
                      have ad3 := c_Reader_advance (d := d + 1) (mc := 0) (ms := 0) lay3 tc3 (ax.tk (by omega) tk1).2.2.2.1 u1.2.2.1
                      show Wp _ 63 142 [(2, ((2 : Nat) : Int)), (2, ((12 : Nat) : Int)), (0, (dd : Int)), (0, 1), (0, (s : Int)), (9, 0)] [(0, (c : Int))] K3 _ _ _
                      refine g_istore (ls' := [(2, ((2 : Nat) : Int)), (2, ((12 : Nat) : Int)), (0, (dd : Int)), (0, 1), (0, (s : Int)), (0, (c : Int))]) lk_63_142 rfl rfl ?_
                      refine g_aload_n lk_63_144 rfl ?_
                      refine g_virtual (p := 2) (Qc := _) lk_63_145 rfl (Nat.le_of_ble_eq_true rfl) rfl rfl (lay3.on (by decide) rfl) (Nat.le_of_ble_eq_true rfl) (Nat.le_of_ble_eq_true rfl) (Nat.zero_le _) (Nat.zero_le _) (ad3) ?_
                      rintro _ K4 ⟨rfl, lay4, rd4, tk4⟩
                      have F4 : NdF 12 M K4 := (rd1.re.nd.trans (ax.nd (by omega))).trans rd4.re.nd
                      have x3 : Blw M K4 12 c := ((rd1.blw (by omega)).trans ax.blw (Nat.le_refl _)).trans (rd4.blw (c := c) (by omega)) (Nat.le_refl _)
                      have x1 : pm_ct K4 13 c = (1 : Int) := (by rw [rd4.1.ct (by decide)]; exact ax.at.1)
                      have x2 : pm_ct K4 14 c = (s : Int) := (by rw [rd4.1.ct (by decide)]; exact ax.at.2.1)
                      have sv4 : Sv M K4 := (rd1.sv.trans (ax.1.sv (by decide))).trans rd4.sv
                      have g4 := ih (d + 2) 0 0 K4 (dd + 1) (c + 1) c _ (by omega) (by omega) (by omega) lay4 (tc3.rd rd4) tk4 u2 (by rw [F4.c (by omega) (Or.inr rfl)]; exact hR) (by rw [F4.c (by omega) (Or.inr rfl)]; exact hC) (by rw [rd4.1.ct (by decide)]; exact ax.2.1) (by omega)
                      rw [k1] at g4
                      show Wp _ 63 148 [(2, ((2 : Nat) : Int)), (2, ((12 : Nat) : Int)), (0, (dd : Int)), (0, 1), (0, (s : Int)), (0, (c : Int))] [] K4 _ _ _
                      refine g_iload lk_63_148 rfl ?_
                      refine g_if (t := 164) lk_63_150 rfl (by first | (unfold pm_inI; omega) | exact pm_and_in _ _ | exact pm_shr_in _ _ | exact pm_or_in _ _ | exact pm_xor_in _ _ | exact pm_shl_in _ _ | exact pm_cmp_in _ _ | exact pm_b8_in _ | (unfold pm_inI; split <;> omega)) (fun h4 => ?_) (fun h4 => ?_)
                      · replace h4 : (c : Int) < 0 := h4
                        omega
                      · replace h4 : ¬ ((c : Int) < 0) := h4
                        refine g_aload_n lk_63_153 rfl ?_
                        refine g_aload_n lk_63_154 rfl ?_
                        refine g_iload_n lk_63_155 rfl ?_
                        refine g_iconst lk_63_156 ?_
                        refine g_iadd lk_63_157 ?_
                        refine g_virtual (p := 2) (Qc := _) lk_63_158 rfl (Nat.le_of_ble_eq_true rfl) rfl rfl (lay4.on (by decide) rfl) (Nat.le_of_ble_eq_true rfl) (Nat.le_of_ble_eq_true rfl) (Nat.zero_le _) (Nat.zero_le _) (g4) ?_
                        rintro _ K5 ⟨lay5, nf5, rfl, tk5, ct5, sg5, bl5, sv5⟩
                        show Wp _ 63 161 [(2, ((2 : Nat) : Int)), (2, ((12 : Nat) : Int)), (0, (dd : Int)), (0, 1), (0, (s : Int)), (0, (c : Int))] [(0, 1)] K5 _ _ _
                        refine g_if (t := 166) lk_63_161 rfl (by first | (unfold pm_inI; omega) | exact pm_and_in _ _ | exact pm_shr_in _ _ | exact pm_or_in _ _ | exact pm_xor_in _ _ | exact pm_shl_in _ _ | exact pm_cmp_in _ _ | exact pm_b8_in _ | (unfold pm_inI; split <;> omega)) (fun _ => ?_) (fun h => absurd (show ¬ (1 : Int) = (0 : Int) by omega) h)
                        exact step K4 K5 lay5 F4 nf5 x1 x2 x3 tk5 ct5 sg5 bl5 (sv4.trans sv5)
                    · replace h3 : ¬ (¬ (s : Int) = 0) := h3
                      refine g_iconst lk_63_125 ?_
                      refine g_ireturn lk_63_126 (fun _ => by omega) ?_
                      omega
                  · replace h2 : ¬ ((c : Int) < 31) := h2
                    omega
          · have y2 : twd ch t = wdB := by
              rcases a.2 with e | e | e
              · exact absurd e g
              · exact absurd e y
              · exact e
            have em : (if twd ch t = wdA then R else C) = C := if_neg y
            have ex : (if twd ch t = wdA then 1 else 2) = 2 := if_neg y
            have f13x : pm_ct M 2 13 = 2 := by rw [f13']; exact w2.mpr y2
            cases hp : pSet ch (if twd ch t = wdA then R else C) (lxt ch n t.2.2) with
            | inl e =>
              rw [pN_nd0 a b g hp]
              rw [em] at hp
              clear ih w1 w2 w3 w4 w5
              refine g_aload_n lk_63_0 rfl ?_
              refine m_getfield (u := []) (M := M) lk_63_1 rfl (lay.on (by decide) rfl) (v := 1) f10' ?_
              refine g_iconst lk_63_4 ?_
              refine g_icmp (t := 33) lk_63_5 rfl (by first | (unfold pm_inI; omega) | exact pm_and_in _ _ | exact pm_shr_in _ _ | exact pm_or_in _ _ | exact pm_xor_in _ _ | exact pm_shl_in _ _ | exact pm_cmp_in _ _ | exact pm_b8_in _ | (unfold pm_inI; split <;> omega)) (by first | (unfold pm_inI; omega) | exact pm_and_in _ _ | exact pm_shr_in _ _ | exact pm_or_in _ _ | exact pm_xor_in _ _ | exact pm_shl_in _ _ | exact pm_cmp_in _ _ | exact pm_b8_in _ | (unfold pm_inI; split <;> omega)) (fun h => absurd h (show ¬ (¬ (1 : Int) = (1 : Int)) by omega)) (fun _ => ?_)
              refine g_aload_n lk_63_8 rfl ?_
              refine m_getfield (u := []) (M := M) lk_63_9 rfl (lay.on (by decide) rfl) (v := 2) f13x ?_
              refine g_ldc lk_63_12 ?_
              refine g_icmp (t := 39) lk_63_14 rfl (by first | (unfold pm_inI; omega) | exact pm_and_in _ _ | exact pm_shr_in _ _ | exact pm_or_in _ _ | exact pm_xor_in _ _ | exact pm_shl_in _ _ | exact pm_cmp_in _ _ | exact pm_b8_in _ | (unfold pm_inI; split <;> omega)) (by first | (unfold pm_inI; omega) | exact pm_and_in _ _ | exact pm_shr_in _ _ | exact pm_or_in _ _ | exact pm_xor_in _ _ | exact pm_shl_in _ _ | exact pm_cmp_in _ _ | exact pm_b8_in _ | (unfold pm_inI; split <;> omega)) (fun h => absurd h (show ¬ ((2 : Int) = (239874 : Int)) by omega)) (fun _ => ?_)
              refine g_aload_n lk_63_17 rfl ?_
              refine m_getfield (u := []) (M := M) lk_63_18 rfl (lay.on (by decide) rfl) (v := 2) f13x ?_
              refine g_iconst lk_63_21 ?_
              refine g_icmp (t := 39) lk_63_22 rfl (by first | (unfold pm_inI; omega) | exact pm_and_in _ _ | exact pm_shr_in _ _ | exact pm_or_in _ _ | exact pm_xor_in _ _ | exact pm_shl_in _ _ | exact pm_cmp_in _ _ | exact pm_b8_in _ | (unfold pm_inI; split <;> omega)) (by first | (unfold pm_inI; omega) | exact pm_and_in _ _ | exact pm_shr_in _ _ | exact pm_or_in _ _ | exact pm_xor_in _ _ | exact pm_shl_in _ _ | exact pm_cmp_in _ _ | exact pm_b8_in _ | (unfold pm_inI; split <;> omega)) (fun h => absurd h (show ¬ ((2 : Int) = (1 : Int)) by omega)) (fun _ => ?_)
              refine g_aload_n lk_63_25 rfl ?_
              refine m_getfield (u := []) (M := M) lk_63_26 rfl (lay.on (by decide) rfl) (v := 2) f13x ?_
              refine g_iconst lk_63_29 ?_
              refine g_icmp (t := 39) lk_63_30 rfl (by first | (unfold pm_inI; omega) | exact pm_and_in _ _ | exact pm_shr_in _ _ | exact pm_or_in _ _ | exact pm_xor_in _ _ | exact pm_shl_in _ _ | exact pm_cmp_in _ _ | exact pm_b8_in _ | (unfold pm_inI; split <;> omega)) (by first | (unfold pm_inI; omega) | exact pm_and_in _ _ | exact pm_shr_in _ _ | exact pm_or_in _ _ | exact pm_xor_in _ _ | exact pm_shl_in _ _ | exact pm_cmp_in _ _ | exact pm_b8_in _ | (unfold pm_inI; split <;> omega)) (fun _ => ?_) (fun h => absurd (show (2 : Int) = (2 : Int) by omega) h)
              refine g_iload_n lk_63_39 rfl ?_
              refine g_bipush lk_63_40 ?_
              refine g_icmp (t := 54) lk_63_42 rfl (by first | (unfold pm_inI; omega) | exact pm_and_in _ _ | exact pm_shr_in _ _ | exact pm_or_in _ _ | exact pm_xor_in _ _ | exact pm_shl_in _ _ | exact pm_cmp_in _ _ | exact pm_b8_in _ | (unfold pm_inI; split <;> omega)) (by first | (unfold pm_inI; omega) | exact pm_and_in _ _ | exact pm_shr_in _ _ | exact pm_or_in _ _ | exact pm_xor_in _ _ | exact pm_shl_in _ _ | exact pm_cmp_in _ _ | exact pm_b8_in _ | (unfold pm_inI; split <;> omega)) (fun h1 => ?_) (fun h1 => ?_)
              · replace h1 : 9 ≤ (dd : Int) := h1
                omega
              · replace h1 : ¬ (9 ≤ (dd : Int)) := h1
                refine g_aload_n lk_63_45 rfl ?_
                refine m_getfield (u := []) (M := M) lk_63_46 rfl (lay.on (by decide) rfl) (v := (c : Int)) hc ?_
                refine g_bipush lk_63_49 ?_
                refine g_icmp (t := 60) lk_63_51 rfl (by first | (unfold pm_inI; omega) | exact pm_and_in _ _ | exact pm_shr_in _ _ | exact pm_or_in _ _ | exact pm_xor_in _ _ | exact pm_shl_in _ _ | exact pm_cmp_in _ _ | exact pm_b8_in _ | (unfold pm_inI; split <;> omega)) (by first | (unfold pm_inI; omega) | exact pm_and_in _ _ | exact pm_shr_in _ _ | exact pm_or_in _ _ | exact pm_xor_in _ _ | exact pm_shl_in _ _ | exact pm_cmp_in _ _ | exact pm_b8_in _ | (unfold pm_inI; split <;> omega)) (fun h2 => ?_) (fun h2 => ?_)
                · replace h2 : (c : Int) < 31 := h2
                  refine g_aload_n lk_63_60 rfl ?_
                  refine m_getfield (u := []) (M := M) lk_63_61 rfl (lay.on (by decide) rfl) (v := 2) f13x ?_
                  refine g_ldc lk_63_64 ?_
                  refine g_icmp (t := 75) lk_63_66 rfl (by first | (unfold pm_inI; omega) | exact pm_and_in _ _ | exact pm_shr_in _ _ | exact pm_or_in _ _ | exact pm_xor_in _ _ | exact pm_shl_in _ _ | exact pm_cmp_in _ _ | exact pm_b8_in _ | (unfold pm_inI; split <;> omega)) (by first | (unfold pm_inI; omega) | exact pm_and_in _ _ | exact pm_shr_in _ _ | exact pm_or_in _ _ | exact pm_xor_in _ _ | exact pm_shl_in _ _ | exact pm_cmp_in _ _ | exact pm_b8_in _ | (unfold pm_inI; split <;> omega)) (fun _ => ?_) (fun h => absurd (show ¬ (2 : Int) = (239874 : Int) by omega) h)
                  refine g_aload_n lk_63_75 rfl ?_
                  refine m_getfield (u := []) (M := M) lk_63_76 rfl (lay.on (by decide) rfl) (v := 2) f13x ?_
                  refine g_iconst lk_63_79 ?_
                  refine g_icmp (t := 87) lk_63_80 rfl (by first | (unfold pm_inI; omega) | exact pm_and_in _ _ | exact pm_shr_in _ _ | exact pm_or_in _ _ | exact pm_xor_in _ _ | exact pm_shl_in _ _ | exact pm_cmp_in _ _ | exact pm_b8_in _ | (unfold pm_inI; split <;> omega)) (by first | (unfold pm_inI; omega) | exact pm_and_in _ _ | exact pm_shr_in _ _ | exact pm_or_in _ _ | exact pm_xor_in _ _ | exact pm_shl_in _ _ | exact pm_cmp_in _ _ | exact pm_b8_in _ | (unfold pm_inI; split <;> omega)) (fun _ => ?_) (fun h => absurd (show ¬ (2 : Int) = (1 : Int) by omega) h)
                  refine g_iconst lk_63_87 ?_
                  refine g_istore_n (ls' := [(2, ((2 : Nat) : Int)), (2, ((12 : Nat) : Int)), (0, (dd : Int)), (0, 0), (9, 0), (9, 0)]) lk_63_88 rfl rfl ?_
                  refine g_aload_n lk_63_89 rfl ?_
                  refine g_virtual (p := 2) (Qc := _) lk_63_90 rfl (Nat.le_of_ble_eq_true rfl) rfl rfl (lay.on (by decide) rfl) (Nat.le_of_ble_eq_true rfl) (Nat.le_of_ble_eq_true rfl) (Nat.zero_le _) (Nat.zero_le _) (ad) ?_
                  rintro _ K1 ⟨rfl, lay1, rd1, tk1⟩
                  have f4 : pm_ct K1 4 2 = (C : Int) := (by rw [rd1.1.ct (by decide)]; exact hC)
                  have hc1 : pm_ct K1 12 3 = (c : Int) := (by rw [rd1.1.ct (by decide)]; exact hc)
                  show Wp _ 63 93 [(2, ((2 : Nat) : Int)), (2, ((12 : Nat) : Int)), (0, (dd : Int)), (0, 0), (9, 0), (9, 0)] [] K1 _ _ _
                  refine g_aload_n lk_63_93 rfl ?_
                  refine g_iload_n lk_63_94 rfl ?_
                  refine g_if (t := 108) lk_63_95 rfl (by first | (unfold pm_inI; omega) | exact pm_and_in _ _ | exact pm_shr_in _ _ | exact pm_or_in _ _ | exact pm_xor_in _ _ | exact pm_shl_in _ _ | exact pm_cmp_in _ _ | exact pm_b8_in _ | (unfold pm_inI; split <;> omega)) (fun _ => ?_) (fun h => absurd (show (0 : Int) = (0 : Int) by omega) h)
                  refine g_aload_n lk_63_108 rfl ?_
                  refine g_getfield lk_63_109 rfl (lay1.on (by decide) rfl) (v := ((4 : Nat) : Int)) (lay1.rf rfl) ?_
                  refine m_getfield (u := []) (M := K1) lk_63_112 rfl (lay1.on (by decide) rfl) (v := (C : Int)) f4 ?_
                  refine g_virtual (p := 2) (Qc := _) lk_63_115 rfl (Nat.le_of_ble_eq_true rfl) rfl rfl (lay1.on (by decide) rfl) (Nat.le_of_ble_eq_true rfl) (Nat.le_of_ble_eq_true rfl) (Nat.zero_le _) (Nat.zero_le _) (c_Reader_readSet (d := d + 1) (mc := 0) (ms := 0) lay1 (hM.rd rd1) tk1 u1 c6) ?_
                  rintro ρ2 K2 ⟨lay2, re2, o2⟩
                  obtain ⟨rfl, ft2⟩ := set_inl hp o2
                  show Wp _ 63 118 [(2, ((2 : Nat) : Int)), (2, ((12 : Nat) : Int)), (0, (dd : Int)), (0, 0), (9, 0), (9, 0)] [(0, 0)] K2 _ _ _
                  refine g_istore (ls' := [(2, ((2 : Nat) : Int)), (2, ((12 : Nat) : Int)), (0, (dd : Int)), (0, 0), (0, 0), (9, 0)]) lk_63_118 rfl rfl ?_
                  refine g_iload lk_63_120 rfl ?_
                  refine g_if (t := 127) lk_63_122 rfl (by first | (unfold pm_inI; omega) | exact pm_and_in _ _ | exact pm_shr_in _ _ | exact pm_or_in _ _ | exact pm_xor_in _ _ | exact pm_shl_in _ _ | exact pm_cmp_in _ _ | exact pm_b8_in _ | (unfold pm_inI; split <;> omega)) (fun h => absurd h (show ¬ (¬ (0 : Int) = (0 : Int)) by omega)) (fun _ => ?_)
                  refine g_iconst lk_63_125 ?_
                  refine g_ireturn lk_63_126 (fun _ => by omega) ?_
                  exact ⟨lay2, rd1.re.nd.trans re2.nd, rfl, ft2⟩
                · replace h2 : ¬ ((c : Int) < 31) := h2
                  omega
            | inr s =>
              cases k1 : pN ch n R C f (dd + 1) (c + 1) c (lxt ch n (lxt ch n t.2.2).2.2) with
              | inl e =>
                rw [pN_nd1 a b g hp k1]
                rw [em] at hp
                clear w1 w2 w3 w4 w5
                refine g_aload_n lk_63_0 rfl ?_
                refine m_getfield (u := []) (M := M) lk_63_1 rfl (lay.on (by decide) rfl) (v := 1) f10' ?_
                refine g_iconst lk_63_4 ?_
                refine g_icmp (t := 33) lk_63_5 rfl (by first | (unfold pm_inI; omega) | exact pm_and_in _ _ | exact pm_shr_in _ _ | exact pm_or_in _ _ | exact pm_xor_in _ _ | exact pm_shl_in _ _ | exact pm_cmp_in _ _ | exact pm_b8_in _ | (unfold pm_inI; split <;> omega)) (by first | (unfold pm_inI; omega) | exact pm_and_in _ _ | exact pm_shr_in _ _ | exact pm_or_in _ _ | exact pm_xor_in _ _ | exact pm_shl_in _ _ | exact pm_cmp_in _ _ | exact pm_b8_in _ | (unfold pm_inI; split <;> omega)) (fun h => absurd h (show ¬ (¬ (1 : Int) = (1 : Int)) by omega)) (fun _ => ?_)
                refine g_aload_n lk_63_8 rfl ?_
                refine m_getfield (u := []) (M := M) lk_63_9 rfl (lay.on (by decide) rfl) (v := 2) f13x ?_
                refine g_ldc lk_63_12 ?_
                refine g_icmp (t := 39) lk_63_14 rfl (by first | (unfold pm_inI; omega) | exact pm_and_in _ _ | exact pm_shr_in _ _ | exact pm_or_in _ _ | exact pm_xor_in _ _ | exact pm_shl_in _ _ | exact pm_cmp_in _ _ | exact pm_b8_in _ | (unfold pm_inI; split <;> omega)) (by first | (unfold pm_inI; omega) | exact pm_and_in _ _ | exact pm_shr_in _ _ | exact pm_or_in _ _ | exact pm_xor_in _ _ | exact pm_shl_in _ _ | exact pm_cmp_in _ _ | exact pm_b8_in _ | (unfold pm_inI; split <;> omega)) (fun h => absurd h (show ¬ ((2 : Int) = (239874 : Int)) by omega)) (fun _ => ?_)
                refine g_aload_n lk_63_17 rfl ?_
                refine m_getfield (u := []) (M := M) lk_63_18 rfl (lay.on (by decide) rfl) (v := 2) f13x ?_
                refine g_iconst lk_63_21 ?_
                refine g_icmp (t := 39) lk_63_22 rfl (by first | (unfold pm_inI; omega) | exact pm_and_in _ _ | exact pm_shr_in _ _ | exact pm_or_in _ _ | exact pm_xor_in _ _ | exact pm_shl_in _ _ | exact pm_cmp_in _ _ | exact pm_b8_in _ | (unfold pm_inI; split <;> omega)) (by first | (unfold pm_inI; omega) | exact pm_and_in _ _ | exact pm_shr_in _ _ | exact pm_or_in _ _ | exact pm_xor_in _ _ | exact pm_shl_in _ _ | exact pm_cmp_in _ _ | exact pm_b8_in _ | (unfold pm_inI; split <;> omega)) (fun h => absurd h (show ¬ ((2 : Int) = (1 : Int)) by omega)) (fun _ => ?_)
                refine g_aload_n lk_63_25 rfl ?_
                refine m_getfield (u := []) (M := M) lk_63_26 rfl (lay.on (by decide) rfl) (v := 2) f13x ?_
                refine g_iconst lk_63_29 ?_
                refine g_icmp (t := 39) lk_63_30 rfl (by first | (unfold pm_inI; omega) | exact pm_and_in _ _ | exact pm_shr_in _ _ | exact pm_or_in _ _ | exact pm_xor_in _ _ | exact pm_shl_in _ _ | exact pm_cmp_in _ _ | exact pm_b8_in _ | (unfold pm_inI; split <;> omega)) (by first | (unfold pm_inI; omega) | exact pm_and_in _ _ | exact pm_shr_in _ _ | exact pm_or_in _ _ | exact pm_xor_in _ _ | exact pm_shl_in _ _ | exact pm_cmp_in _ _ | exact pm_b8_in _ | (unfold pm_inI; split <;> omega)) (fun _ => ?_) (fun h => absurd (show (2 : Int) = (2 : Int) by omega) h)
                refine g_iload_n lk_63_39 rfl ?_
                refine g_bipush lk_63_40 ?_
                refine g_icmp (t := 54) lk_63_42 rfl (by first | (unfold pm_inI; omega) | exact pm_and_in _ _ | exact pm_shr_in _ _ | exact pm_or_in _ _ | exact pm_xor_in _ _ | exact pm_shl_in _ _ | exact pm_cmp_in _ _ | exact pm_b8_in _ | (unfold pm_inI; split <;> omega)) (by first | (unfold pm_inI; omega) | exact pm_and_in _ _ | exact pm_shr_in _ _ | exact pm_or_in _ _ | exact pm_xor_in _ _ | exact pm_shl_in _ _ | exact pm_cmp_in _ _ | exact pm_b8_in _ | (unfold pm_inI; split <;> omega)) (fun h1 => ?_) (fun h1 => ?_)
                · replace h1 : 9 ≤ (dd : Int) := h1
                  omega
                · replace h1 : ¬ (9 ≤ (dd : Int)) := h1
                  refine g_aload_n lk_63_45 rfl ?_
                  refine m_getfield (u := []) (M := M) lk_63_46 rfl (lay.on (by decide) rfl) (v := (c : Int)) hc ?_
                  refine g_bipush lk_63_49 ?_
                  refine g_icmp (t := 60) lk_63_51 rfl (by first | (unfold pm_inI; omega) | exact pm_and_in _ _ | exact pm_shr_in _ _ | exact pm_or_in _ _ | exact pm_xor_in _ _ | exact pm_shl_in _ _ | exact pm_cmp_in _ _ | exact pm_b8_in _ | (unfold pm_inI; split <;> omega)) (by first | (unfold pm_inI; omega) | exact pm_and_in _ _ | exact pm_shr_in _ _ | exact pm_or_in _ _ | exact pm_xor_in _ _ | exact pm_shl_in _ _ | exact pm_cmp_in _ _ | exact pm_b8_in _ | (unfold pm_inI; split <;> omega)) (fun h2 => ?_) (fun h2 => ?_)
                  · replace h2 : (c : Int) < 31 := h2
                    refine g_aload_n lk_63_60 rfl ?_
                    refine m_getfield (u := []) (M := M) lk_63_61 rfl (lay.on (by decide) rfl) (v := 2) f13x ?_
                    refine g_ldc lk_63_64 ?_
                    refine g_icmp (t := 75) lk_63_66 rfl (by first | (unfold pm_inI; omega) | exact pm_and_in _ _ | exact pm_shr_in _ _ | exact pm_or_in _ _ | exact pm_xor_in _ _ | exact pm_shl_in _ _ | exact pm_cmp_in _ _ | exact pm_b8_in _ | (unfold pm_inI; split <;> omega)) (by first | (unfold pm_inI; omega) | exact pm_and_in _ _ | exact pm_shr_in _ _ | exact pm_or_in _ _ | exact pm_xor_in _ _ | exact pm_shl_in _ _ | exact pm_cmp_in _ _ | exact pm_b8_in _ | (unfold pm_inI; split <;> omega)) (fun _ => ?_) (fun h => absurd (show ¬ (2 : Int) = (239874 : Int) by omega) h)
                    refine g_aload_n lk_63_75 rfl ?_
                    refine m_getfield (u := []) (M := M) lk_63_76 rfl (lay.on (by decide) rfl) (v := 2) f13x ?_
                    refine g_iconst lk_63_79 ?_
                    refine g_icmp (t := 87) lk_63_80 rfl (by first | (unfold pm_inI; omega) | exact pm_and_in _ _ | exact pm_shr_in _ _ | exact pm_or_in _ _ | exact pm_xor_in _ _ | exact pm_shl_in _ _ | exact pm_cmp_in _ _ | exact pm_b8_in _ | (unfold pm_inI; split <;> omega)) (by first | (unfold pm_inI; omega) | exact pm_and_in _ _ | exact pm_shr_in _ _ | exact pm_or_in _ _ | exact pm_xor_in _ _ | exact pm_shl_in _ _ | exact pm_cmp_in _ _ | exact pm_b8_in _ | (unfold pm_inI; split <;> omega)) (fun _ => ?_) (fun h => absurd (show ¬ (2 : Int) = (1 : Int) by omega) h)
                    refine g_iconst lk_63_87 ?_
                    refine g_istore_n (ls' := [(2, ((2 : Nat) : Int)), (2, ((12 : Nat) : Int)), (0, (dd : Int)), (0, 0), (9, 0), (9, 0)]) lk_63_88 rfl rfl ?_
                    refine g_aload_n lk_63_89 rfl ?_
                    refine g_virtual (p := 2) (Qc := _) lk_63_90 rfl (Nat.le_of_ble_eq_true rfl) rfl rfl (lay.on (by decide) rfl) (Nat.le_of_ble_eq_true rfl) (Nat.le_of_ble_eq_true rfl) (Nat.zero_le _) (Nat.zero_le _) (ad) ?_
                    rintro _ K1 ⟨rfl, lay1, rd1, tk1⟩
                    have f4 : pm_ct K1 4 2 = (C : Int) := (by rw [rd1.1.ct (by decide)]; exact hC)
                    have hc1 : pm_ct K1 12 3 = (c : Int) := (by rw [rd1.1.ct (by decide)]; exact hc)
                    show Wp _ 63 93 [(2, ((2 : Nat) : Int)), (2, ((12 : Nat) : Int)), (0, (dd : Int)), (0, 0), (9, 0), (9, 0)] [] K1 _ _ _
                    refine g_aload_n lk_63_93 rfl ?_
                    refine g_iload_n lk_63_94 rfl ?_
                    refine g_if (t := 108) lk_63_95 rfl (by first | (unfold pm_inI; omega) | exact pm_and_in _ _ | exact pm_shr_in _ _ | exact pm_or_in _ _ | exact pm_xor_in _ _ | exact pm_shl_in _ _ | exact pm_cmp_in _ _ | exact pm_b8_in _ | (unfold pm_inI; split <;> omega)) (fun _ => ?_) (fun h => absurd (show (0 : Int) = (0 : Int) by omega) h)
                    refine g_aload_n lk_63_108 rfl ?_
                    refine g_getfield lk_63_109 rfl (lay1.on (by decide) rfl) (v := ((4 : Nat) : Int)) (lay1.rf rfl) ?_
                    refine m_getfield (u := []) (M := K1) lk_63_112 rfl (lay1.on (by decide) rfl) (v := (C : Int)) f4 ?_
                    refine g_virtual (p := 2) (Qc := _) lk_63_115 rfl (Nat.le_of_ble_eq_true rfl) rfl rfl (lay1.on (by decide) rfl) (Nat.le_of_ble_eq_true rfl) (Nat.le_of_ble_eq_true rfl) (Nat.zero_le _) (Nat.zero_le _) (c_Reader_readSet (d := d + 1) (mc := 0) (ms := 0) lay1 (hM.rd rd1) tk1 u1 c6) ?_
                    rintro ρ2 K2 ⟨lay2, re2, o2⟩
                    obtain ⟨s1, s2, rfl, eK⟩ := set_inr hp o2
                    rw [eK]
                    show Wp _ 63 118 [(2, ((2 : Nat) : Int)), (2, ((12 : Nat) : Int)), (0, (dd : Int)), (0, 0), (9, 0), (9, 0)] [(0, (s : Int))] K1 _ _ _
                    refine g_istore (ls' := [(2, ((2 : Nat) : Int)), (2, ((12 : Nat) : Int)), (0, (dd : Int)), (0, 0), (0, (s : Int)), (9, 0)]) lk_63_118 rfl rfl ?_
                    refine g_iload lk_63_120 rfl ?_
                    refine g_if (t := 127) lk_63_122 rfl (by first | (unfold pm_inI; omega) | exact pm_and_in _ _ | exact pm_shr_in _ _ | exact pm_or_in _ _ | exact pm_xor_in _ _ | exact pm_shl_in _ _ | exact pm_cmp_in _ _ | exact pm_b8_in _ | (unfold pm_inI; split <;> omega)) (fun h3 => ?_) (fun h3 => ?_)
                    · replace h3 : ¬ (s : Int) = 0 := h3
                      refine g_aload_n lk_63_127 rfl ?_
                      refine g_iload_n lk_63_128 rfl ?_
                      refine g_if (t := 136) lk_63_129 rfl (by first | (unfold pm_inI; omega) | exact pm_and_in _ _ | exact pm_shr_in _ _ | exact pm_or_in _ _ | exact pm_xor_in _ _ | exact pm_shl_in _ _ | exact pm_cmp_in _ _ | exact pm_b8_in _ | (unfold pm_inI; split <;> omega)) (fun _ => ?_) (fun h => absurd (show (0 : Int) = (0 : Int) by omega) h)
                      refine g_iconst lk_63_136 ?_
                      refine g_iload lk_63_137 rfl ?_
                      refine g_virtual (p := 12) (Qc := _) lk_63_139 rfl (Nat.le_of_ble_eq_true rfl) rfl rfl (lay1.on (by decide) rfl) (Nat.le_of_ble_eq_true rfl) (Nat.le_of_ble_eq_true rfl) (Nat.zero_le _) (Nat.zero_le _) (c_Nodes_addR1 (d := d + 2) (mc := 0) (ms := 0) (x := 2) (y := s) lay1 hc1 c30) ?_
                      rintro _ K3 ⟨rfl, lay3, ax⟩
                      have tc3 := (ax.nd (by omega)).tc (by omega) (hM.rd rd1)
                      have ad3 := c_Reader_advance (d := d + 1) (mc := 0) (ms := 0) lay3 tc3 (ax.tk (by omega) tk1).2.2.2.1 u1.2.2.1
                      show Wp _ 63 142 [(2, ((2 : Nat) : Int)), (2, ((12 : Nat) : Int)), (0, (dd : Int)), (0, 0), (0, (s : Int)), (9, 0)] [(0, (c : Int))] K3 _ _ _
                      refine g_istore (ls' := [(2, ((2 : Nat) : Int)), (2, ((12 : Nat) : Int)), (0, (dd : Int)), (0, 0), (0, (s : Int)), (0, (c : Int))]) lk_63_142 rfl rfl ?_
                      refine g_aload_n lk_63_144 rfl ?_
                      refine g_virtual (p := 2) (Qc := _) lk_63_145 rfl (Nat.le_of_ble_eq_true rfl) rfl rfl (lay3.on (by decide) rfl) (Nat.le_of_ble_eq_true rfl) (Nat.le_of_ble_eq_true rfl) (Nat.zero_le _) (Nat.zero_le _) (ad3) ?_
                      rintro _ K4 ⟨rfl, lay4, rd4, tk4⟩
                      have F4 : NdF 12 M K4 := (rd1.re.nd.trans (ax.nd (by omega))).trans rd4.re.nd
                      have x3 : Blw M K4 12 c := ((rd1.blw (by omega)).trans ax.blw (Nat.le_refl _)).trans (rd4.blw (c := c) (by omega)) (Nat.le_refl _)
                      have x1 : pm_ct K4 13 c = (2 : Int) := (by rw [rd4.1.ct (by decide)]; exact ax.at.1)
                      have x2 : pm_ct K4 14 c = (s : Int) := (by rw [rd4.1.ct (by decide)]; exact ax.at.2.1)
                      have sv4 : Sv M K4 := (rd1.sv.trans (ax.1.sv (by decide))).trans rd4.sv
                      have g4 := ih (d + 2) 0 0 K4 (dd + 1) (c + 1) c _ (by omega) (by omega) (by omega) lay4 (tc3.rd rd4) tk4 u2 (by rw [F4.c (by omega) (Or.inr rfl)]; exact hR) (by rw [F4.c (by omega) (Or.inr rfl)]; exact hC) (by rw [rd4.1.ct (by decide)]; exact ax.2.1) (by omega)
                      rw [k1] at g4
                      show Wp _ 63 148 [(2, ((2 : Nat) : Int)), (2, ((12 : Nat) : Int)), (0, (dd : Int)), (0, 0), (0, (s : Int)), (0, (c : Int))] [] K4 _ _ _
                      refine g_iload lk_63_148 rfl ?_
                      refine g_if (t := 164) lk_63_150 rfl (by first | (unfold pm_inI; omega) | exact pm_and_in _ _ | exact pm_shr_in _ _ | exact pm_or_in _ _ | exact pm_xor_in _ _ | exact pm_shl_in _ _ | exact pm_cmp_in _ _ | exact pm_b8_in _ | (unfold pm_inI; split <;> omega)) (fun h4 => ?_) (fun h4 => ?_)
                      · replace h4 : (c : Int) < 0 := h4
                        refine g_iconst lk_63_164 ?_
                        refine g_ireturn lk_63_165 (fun _ => by omega) ?_
                        first | exact ⟨lay5, F4.trans nf5, rfl, ft5⟩ | (exfalso; omega)
                      · replace h4 : ¬ ((c : Int) < 0) := h4
                        refine g_aload_n lk_63_153 rfl ?_
                        refine g_aload_n lk_63_154 rfl ?_
                        refine g_iload_n lk_63_155 rfl ?_
                        refine g_iconst lk_63_156 ?_
                        refine g_iadd lk_63_157 ?_
                        refine g_virtual (p := 2) (Qc := _) lk_63_158 rfl (Nat.le_of_ble_eq_true rfl) rfl rfl (lay4.on (by decide) rfl) (Nat.le_of_ble_eq_true rfl) (Nat.le_of_ble_eq_true rfl) (Nat.zero_le _) (Nat.zero_le _) (g4) ?_
                        rintro _ K5 ⟨lay5, nf5, rfl, ft5⟩
                        show Wp _ 63 161 [(2, ((2 : Nat) : Int)), (2, ((12 : Nat) : Int)), (0, (dd : Int)), (0, 0), (0, (s : Int)), (0, (c : Int))] [(0, 0)] K5 _ _ _
                        refine g_if (t := 166) lk_63_161 rfl (by first | (unfold pm_inI; omega) | exact pm_and_in _ _ | exact pm_shr_in _ _ | exact pm_or_in _ _ | exact pm_xor_in _ _ | exact pm_shl_in _ _ | exact pm_cmp_in _ _ | exact pm_b8_in _ | (unfold pm_inI; split <;> omega)) (fun h => absurd h (show ¬ (¬ (0 : Int) = (0 : Int)) by omega)) (fun _ => ?_)
                        refine g_iconst lk_63_164 ?_
                        refine g_ireturn lk_63_165 (fun _ => by omega) ?_
                        first | exact ⟨lay5, F4.trans nf5, rfl, ft5⟩ | (exfalso; omega)
                    · replace h3 : ¬ (¬ (s : Int) = 0) := h3
                      refine g_iconst lk_63_125 ?_
                      refine g_ireturn lk_63_126 (fun _ => by omega) ?_
                      first | exact ⟨lay5, F4.trans nf5, rfl, ft5⟩ | (exfalso; omega)
                  · replace h2 : ¬ ((c : Int) < 31) := h2
                    omega
              | inr y1 =>
                obtain ⟨L1, t1⟩ := y1
                obtain ⟨v1, v2, v3⟩ := pN_ok n5 f u2 k1
                have step : ∀ K4 K5 : pm_M, Lay K5 → NdF 12 M K4 → NdF 12 K4 K5 → pm_ct K4 13 c = (2 : Int) → pm_ct K4 14 c = (s : Int) → Blw M K4 12 c → TkX K5 ch t1 → pm_ct K5 12 3 = ((c + 1 + L1.length : Nat) : Int) → SgAt K5 12 (c + 1) (L1.map (fun y => y.1)) → Blw K4 K5 12 (c + 1) → Sv M K5 → Wp (d + 3) 63 166 [(2, ((2 : Nat) : Int)), (2, ((12 : Nat) : Int)), (0, (dd : Int)), (0, 0), (0, (s : Int)), (0, (c : Int))] [] K5 mc ms (fun ρ M' => Lay M' ∧ NdF 12 M M' ∧ ResX ρ M' (fun x => TkX M' ch x.2 ∧ pm_ct M' 12 3 = ((c + x.1.length : Nat) : Int) ∧ SgAt M' 12 c (x.1.map (fun y => y.1)) ∧ Blw M M' 12 c ∧ Sv M M') (pN ch n R C (f + 1) dd c q t)) := by
                  intro K4 K5 lay5 F4 F5 x1 x2 x3 tk5 ct5 sg5 bl5 sv5
                  cases k2 : pN ch n R C f (dd + 1) (c + 1 + L1.length) c t1 with
                  | inl e =>
                    rw [pN_nd2 a b g hp k1 k2]
                    refine g_aload_n lk_63_166 rfl ?_
                    refine g_getfield lk_63_167 rfl (lay5.on (by decide) rfl) (v := ((15 : Nat) : Int)) (lay5.rf rfl) ?_
                    refine g_iload lk_63_170 rfl ?_
                    refine g_aload_n lk_63_172 rfl ?_
                    refine m_getfield (u := []) (M := K5) lk_63_173 rfl (lay5.on (by decide) rfl) (v := ((c + 1 + L1.length : Nat) : Int)) ct5 ?_
                    have lay1 : Lay (Mu [(15, pm_upd (pm_ct K5 15) c ((c + 1 + L1.length : Nat) : Int))] K5) := lay5.muA (l := []) (a := 15) (f := pm_upd (pm_ct K5 15) c ((c + 1 + L1.length : Nat) : Int)) rfl rfl
                    refine m_iastore (u := []) (u' := [(15, pm_upd (pm_ct K5 15) c ((c + 1 + L1.length : Nat) : Int))]) (M := K5) lk_63_176 (lay5.ay (by decide) rfl) (by omega) (j := c) (by omega) rfl ?_
                    refine g_aload_n lk_63_177 rfl ?_
                    refine g_aload_n lk_63_178 rfl ?_
                    refine g_iload_n lk_63_179 rfl ?_
                    refine g_iconst lk_63_180 ?_
                    refine g_iadd lk_63_181 ?_
                    have fM : Fr [15] K5 (Mu [(15, pm_upd (pm_ct K5 15) c ((c + 1 + L1.length : Nat) : Int))] K5) := Fr.mu _ _ rfl
                    have F6 : NdF 12 M (Mu [(15, pm_upd (pm_ct K5 15) c ((c + 1 + L1.length : Nat) : Int))] K5) := (F4.trans F5).trans (Fr.nd3 (P := 12) fM (by omega))
                    have g5 := ih (d + 2) 0 0 (Mu [(15, pm_upd (pm_ct K5 15) c ((c + 1 + L1.length : Nat) : Int))] K5) (dd + 1) (c + 1 + L1.length) c t1 (by omega) (by omega) (by omega) lay1 (F6.tc (by omega) hM) (Fr.tk3 (P := 12) fM (by omega) tk5) v1 (by rw [F6.c (by omega) (Or.inr rfl)]; exact hR) (by rw [F6.c (by omega) (Or.inr rfl)]; exact hC) (by rw [fM.ct (by decide)]; exact ct5) (by omega)
                    rw [k2] at g5
                    refine g_virtual (p := 2) (Qc := _) lk_63_182 rfl (Nat.le_of_ble_eq_true rfl) rfl rfl (lay1.on (by decide) rfl) (Nat.le_of_ble_eq_true rfl) (Nat.le_of_ble_eq_true rfl) (Nat.zero_le _) (Nat.zero_le _) g5 ?_
                    rintro _ K7 ⟨lay7, nf7, rfl, ft7⟩
                    refine g_ireturn lk_63_185 (fun _ => by omega) ?_
                    exact ⟨lay7, F6.trans nf7, rfl, ft7⟩
                  | inr y2 =>
                    obtain ⟨L2, t2⟩ := y2
                    rw [pN_nd3 a b g hp k1 k2, ex]
                    refine g_aload_n lk_63_166 rfl ?_
                    refine g_getfield lk_63_167 rfl (lay5.on (by decide) rfl) (v := ((15 : Nat) : Int)) (lay5.rf rfl) ?_
                    refine g_iload lk_63_170 rfl ?_
                    refine g_aload_n lk_63_172 rfl ?_
                    refine m_getfield (u := []) (M := K5) lk_63_173 rfl (lay5.on (by decide) rfl) (v := ((c + 1 + L1.length : Nat) : Int)) ct5 ?_
                    have lay1 : Lay (Mu [(15, pm_upd (pm_ct K5 15) c ((c + 1 + L1.length : Nat) : Int))] K5) := lay5.muA (l := []) (a := 15) (f := pm_upd (pm_ct K5 15) c ((c + 1 + L1.length : Nat) : Int)) rfl rfl
                    refine m_iastore (u := []) (u' := [(15, pm_upd (pm_ct K5 15) c ((c + 1 + L1.length : Nat) : Int))]) (M := K5) lk_63_176 (lay5.ay (by decide) rfl) (by omega) (j := c) (by omega) rfl ?_
                    refine g_aload_n lk_63_177 rfl ?_
                    refine g_aload_n lk_63_178 rfl ?_
                    refine g_iload_n lk_63_179 rfl ?_
                    refine g_iconst lk_63_180 ?_
                    refine g_iadd lk_63_181 ?_
                    have fM : Fr [15] K5 (Mu [(15, pm_upd (pm_ct K5 15) c ((c + 1 + L1.length : Nat) : Int))] K5) := Fr.mu _ _ rfl
                    have F6 : NdF 12 M (Mu [(15, pm_upd (pm_ct K5 15) c ((c + 1 + L1.length : Nat) : Int))] K5) := (F4.trans F5).trans (Fr.nd3 (P := 12) fM (by omega))
                    have m3 : pm_ct (Mu [(15, pm_upd (pm_ct K5 15) c ((c + 1 + L1.length : Nat) : Int))] K5) 15 = pm_upd (pm_ct K5 15) c ((c + 1 + L1.length : Nat) : Int) := by rw [Mu_ct]; rfl
                    have m1 : pm_ct (Mu [(15, pm_upd (pm_ct K5 15) c ((c + 1 + L1.length : Nat) : Int))] K5) 13 = pm_ct K5 13 := fM.ct (by decide)
                    have m2 : pm_ct (Mu [(15, pm_upd (pm_ct K5 15) c ((c + 1 + L1.length : Nat) : Int))] K5) 14 = pm_ct K5 14 := fM.ct (by decide)
                    have g5 := ih (d + 2) 0 0 (Mu [(15, pm_upd (pm_ct K5 15) c ((c + 1 + L1.length : Nat) : Int))] K5) (dd + 1) (c + 1 + L1.length) c t1 (by omega) (by omega) (by omega) lay1 (F6.tc (by omega) hM) (Fr.tk3 (P := 12) fM (by omega) tk5) v1 (by rw [F6.c (by omega) (Or.inr rfl)]; exact hR) (by rw [F6.c (by omega) (Or.inr rfl)]; exact hC) (by rw [fM.ct (by decide)]; exact ct5) (by omega)
                    rw [k2] at g5
                    refine g_virtual (p := 2) (Qc := _) lk_63_182 rfl (Nat.le_of_ble_eq_true rfl) rfl rfl (lay1.on (by decide) rfl) (Nat.le_of_ble_eq_true rfl) (Nat.le_of_ble_eq_true rfl) (Nat.zero_le _) (Nat.zero_le _) g5 ?_
                    rintro _ K7 ⟨lay7, nf7, rfl, tk7, ct7, sg7, bl7, sv7⟩
                    refine g_ireturn lk_63_185 (fun _ => by omega) ?_
                    refine ⟨lay7, F6.trans nf7, rfl, tk7, ?_, ?_, ?_, (sv5.trans (fM.sv (by decide))).trans sv7⟩
                    · show pm_ct K7 12 3 = ((c + (L1 ++ L2).length.succ : Nat) : Int)
                      rw [List.length_append, show c + (L1.length + L2.length).succ = c + 1 + L1.length + L2.length by omega]
                      exact ct7
                    · rw [List.map_cons, List.map_append]
                      exact SgAt.join (P := 12) x1 x2 bl5 sg5 m1 m2 m3 (by rw [List.length_map]; exact bl7) (by rw [List.length_map]; exact sg7)
                    · exact ((x3.trans bl5 (by omega)).trans (Blw.put (P := 12) m1 m2 m3) (Nat.le_refl _)).trans bl7 (by omega)
                clear w1 w2 w3 w4 w5
                have hp' := hp
                rw [em] at hp'
                refine g_aload_n lk_63_0 rfl ?_
                refine m_getfield (u := []) (M := M) lk_63_1 rfl (lay.on (by decide) rfl) (v := 1) f10' ?_
                refine g_iconst lk_63_4 ?_
                refine g_icmp (t := 33) lk_63_5 rfl (by first | (unfold pm_inI; omega) | exact pm_and_in _ _ | exact pm_shr_in _ _ | exact pm_or_in _ _ | exact pm_xor_in _ _ | exact pm_shl_in _ _ | exact pm_cmp_in _ _ | exact pm_b8_in _ | (unfold pm_inI; split <;> omega)) (by first | (unfold pm_inI; omega) | exact pm_and_in _ _ | exact pm_shr_in _ _ | exact pm_or_in _ _ | exact pm_xor_in _ _ | exact pm_shl_in _ _ | exact pm_cmp_in _ _ | exact pm_b8_in _ | (unfold pm_inI; split <;> omega)) (fun h => absurd h (show ¬ (¬ (1 : Int) = (1 : Int)) by omega)) (fun _ => ?_)
                refine g_aload_n lk_63_8 rfl ?_
                refine m_getfield (u := []) (M := M) lk_63_9 rfl (lay.on (by decide) rfl) (v := 2) f13x ?_
                refine g_ldc lk_63_12 ?_
                refine g_icmp (t := 39) lk_63_14 rfl (by first | (unfold pm_inI; omega) | exact pm_and_in _ _ | exact pm_shr_in _ _ | exact pm_or_in _ _ | exact pm_xor_in _ _ | exact pm_shl_in _ _ | exact pm_cmp_in _ _ | exact pm_b8_in _ | (unfold pm_inI; split <;> omega)) (by first | (unfold pm_inI; omega) | exact pm_and_in _ _ | exact pm_shr_in _ _ | exact pm_or_in _ _ | exact pm_xor_in _ _ | exact pm_shl_in _ _ | exact pm_cmp_in _ _ | exact pm_b8_in _ | (unfold pm_inI; split <;> omega)) (fun h => absurd h (show ¬ ((2 : Int) = (239874 : Int)) by omega)) (fun _ => ?_)
                refine g_aload_n lk_63_17 rfl ?_
                refine m_getfield (u := []) (M := M) lk_63_18 rfl (lay.on (by decide) rfl) (v := 2) f13x ?_
                refine g_iconst lk_63_21 ?_
                refine g_icmp (t := 39) lk_63_22 rfl (by first | (unfold pm_inI; omega) | exact pm_and_in _ _ | exact pm_shr_in _ _ | exact pm_or_in _ _ | exact pm_xor_in _ _ | exact pm_shl_in _ _ | exact pm_cmp_in _ _ | exact pm_b8_in _ | (unfold pm_inI; split <;> omega)) (by first | (unfold pm_inI; omega) | exact pm_and_in _ _ | exact pm_shr_in _ _ | exact pm_or_in _ _ | exact pm_xor_in _ _ | exact pm_shl_in _ _ | exact pm_cmp_in _ _ | exact pm_b8_in _ | (unfold pm_inI; split <;> omega)) (fun h => absurd h (show ¬ ((2 : Int) = (1 : Int)) by omega)) (fun _ => ?_)
                refine g_aload_n lk_63_25 rfl ?_
                refine m_getfield (u := []) (M := M) lk_63_26 rfl (lay.on (by decide) rfl) (v := 2) f13x ?_
                refine g_iconst lk_63_29 ?_
                refine g_icmp (t := 39) lk_63_30 rfl (by first | (unfold pm_inI; omega) | exact pm_and_in _ _ | exact pm_shr_in _ _ | exact pm_or_in _ _ | exact pm_xor_in _ _ | exact pm_shl_in _ _ | exact pm_cmp_in _ _ | exact pm_b8_in _ | (unfold pm_inI; split <;> omega)) (by first | (unfold pm_inI; omega) | exact pm_and_in _ _ | exact pm_shr_in _ _ | exact pm_or_in _ _ | exact pm_xor_in _ _ | exact pm_shl_in _ _ | exact pm_cmp_in _ _ | exact pm_b8_in _ | (unfold pm_inI; split <;> omega)) (fun _ => ?_) (fun h => absurd (show (2 : Int) = (2 : Int) by omega) h)
                refine g_iload_n lk_63_39 rfl ?_
                refine g_bipush lk_63_40 ?_
                refine g_icmp (t := 54) lk_63_42 rfl (by first | (unfold pm_inI; omega) | exact pm_and_in _ _ | exact pm_shr_in _ _ | exact pm_or_in _ _ | exact pm_xor_in _ _ | exact pm_shl_in _ _ | exact pm_cmp_in _ _ | exact pm_b8_in _ | (unfold pm_inI; split <;> omega)) (by first | (unfold pm_inI; omega) | exact pm_and_in _ _ | exact pm_shr_in _ _ | exact pm_or_in _ _ | exact pm_xor_in _ _ | exact pm_shl_in _ _ | exact pm_cmp_in _ _ | exact pm_b8_in _ | (unfold pm_inI; split <;> omega)) (fun h1 => ?_) (fun h1 => ?_)
                · replace h1 : 9 ≤ (dd : Int) := h1
                  omega
                · replace h1 : ¬ (9 ≤ (dd : Int)) := h1
                  refine g_aload_n lk_63_45 rfl ?_
                  refine m_getfield (u := []) (M := M) lk_63_46 rfl (lay.on (by decide) rfl) (v := (c : Int)) hc ?_
                  refine g_bipush lk_63_49 ?_
                  refine g_icmp (t := 60) lk_63_51 rfl (by first | (unfold pm_inI; omega) | exact pm_and_in _ _ | exact pm_shr_in _ _ | exact pm_or_in _ _ | exact pm_xor_in _ _ | exact pm_shl_in _ _ | exact pm_cmp_in _ _ | exact pm_b8_in _ | (unfold pm_inI; split <;> omega)) (by first | (unfold pm_inI; omega) | exact pm_and_in _ _ | exact pm_shr_in _ _ | exact pm_or_in _ _ | exact pm_xor_in _ _ | exact pm_shl_in _ _ | exact pm_cmp_in _ _ | exact pm_b8_in _ | (unfold pm_inI; split <;> omega)) (fun h2 => ?_) (fun h2 => ?_)
                  · replace h2 : (c : Int) < 31 := h2
                    refine g_aload_n lk_63_60 rfl ?_
                    refine m_getfield (u := []) (M := M) lk_63_61 rfl (lay.on (by decide) rfl) (v := 2) f13x ?_
                    refine g_ldc lk_63_64 ?_
                    refine g_icmp (t := 75) lk_63_66 rfl (by first | (unfold pm_inI; omega) | exact pm_and_in _ _ | exact pm_shr_in _ _ | exact pm_or_in _ _ | exact pm_xor_in _ _ | exact pm_shl_in _ _ | exact pm_cmp_in _ _ | exact pm_b8_in _ | (unfold pm_inI; split <;> omega)) (by first | (unfold pm_inI; omega) | exact pm_and_in _ _ | exact pm_shr_in _ _ | exact pm_or_in _ _ | exact pm_xor_in _ _ | exact pm_shl_in _ _ | exact pm_cmp_in _ _ | exact pm_b8_in _ | (unfold pm_inI; split <;> omega)) (fun _ => ?_) (fun h => absurd (show ¬ (2 : Int) = (239874 : Int) by omega) h)
                    refine g_aload_n lk_63_75 rfl ?_
                    refine m_getfield (u := []) (M := M) lk_63_76 rfl (lay.on (by decide) rfl) (v := 2) f13x ?_
                    refine g_iconst lk_63_79 ?_
                    refine g_icmp (t := 87) lk_63_80 rfl (by first | (unfold pm_inI; omega) | exact pm_and_in _ _ | exact pm_shr_in _ _ | exact pm_or_in _ _ | exact pm_xor_in _ _ | exact pm_shl_in _ _ | exact pm_cmp_in _ _ | exact pm_b8_in _ | (unfold pm_inI; split <;> omega)) (by first | (unfold pm_inI; omega) | exact pm_and_in _ _ | exact pm_shr_in _ _ | exact pm_or_in _ _ | exact pm_xor_in _ _ | exact pm_shl_in _ _ | exact pm_cmp_in _ _ | exact pm_b8_in _ | (unfold pm_inI; split <;> omega)) (fun _ => ?_) (fun h => absurd (show ¬ (2 : Int) = (1 : Int) by omega) h)
                    refine g_iconst lk_63_87 ?_
                    refine g_istore_n (ls' := [(2, ((2 : Nat) : Int)), (2, ((12 : Nat) : Int)), (0, (dd : Int)), (0, 0), (9, 0), (9, 0)]) lk_63_88 rfl rfl ?_
                    refine g_aload_n lk_63_89 rfl ?_
                    refine g_virtual (p := 2) (Qc := _) lk_63_90 rfl (Nat.le_of_ble_eq_true rfl) rfl rfl (lay.on (by decide) rfl) (Nat.le_of_ble_eq_true rfl) (Nat.le_of_ble_eq_true rfl) (Nat.zero_le _) (Nat.zero_le _) (ad) ?_
                    rintro _ K1 ⟨rfl, lay1, rd1, tk1⟩
                    have f4 : pm_ct K1 4 2 = (C : Int) := (by rw [rd1.1.ct (by decide)]; exact hC)
                    have hc1 : pm_ct K1 12 3 = (c : Int) := (by rw [rd1.1.ct (by decide)]; exact hc)
                    show Wp _ 63 93 [(2, ((2 : Nat) : Int)), (2, ((12 : Nat) : Int)), (0, (dd : Int)), (0, 0), (9, 0), (9, 0)] [] K1 _ _ _
                    refine g_aload_n lk_63_93 rfl ?_
                    refine g_iload_n lk_63_94 rfl ?_
                    refine g_if (t := 108) lk_63_95 rfl (by first | (unfold pm_inI; omega) | exact pm_and_in _ _ | exact pm_shr_in _ _ | exact pm_or_in _ _ | exact pm_xor_in _ _ | exact pm_shl_in _ _ | exact pm_cmp_in _ _ | exact pm_b8_in _ | (unfold pm_inI; split <;> omega)) (fun _ => ?_) (fun h => absurd (show (0 : Int) = (0 : Int) by omega) h)
                    refine g_aload_n lk_63_108 rfl ?_
                    refine g_getfield lk_63_109 rfl (lay1.on (by decide) rfl) (v := ((4 : Nat) : Int)) (lay1.rf rfl) ?_
                    refine m_getfield (u := []) (M := K1) lk_63_112 rfl (lay1.on (by decide) rfl) (v := (C : Int)) f4 ?_
                    refine g_virtual (p := 2) (Qc := _) lk_63_115 rfl (Nat.le_of_ble_eq_true rfl) rfl rfl (lay1.on (by decide) rfl) (Nat.le_of_ble_eq_true rfl) (Nat.le_of_ble_eq_true rfl) (Nat.zero_le _) (Nat.zero_le _) (c_Reader_readSet (d := d + 1) (mc := 0) (ms := 0) lay1 (hM.rd rd1) tk1 u1 c6) ?_
                    rintro ρ2 K2 ⟨lay2, re2, o2⟩
                    obtain ⟨s1, s2, rfl, eK⟩ := set_inr hp' o2
                    rw [eK]
                    show Wp _ 63 118 [(2, ((2 : Nat) : Int)), (2, ((12 : Nat) : Int)), (0, (dd : Int)), (0, 0), (9, 0), (9, 0)] [(0, (s : Int))] K1 _ _ _
                    refine g_istore (ls' := [(2, ((2 : Nat) : Int)), (2, ((12 : Nat) : Int)), (0, (dd : Int)), (0, 0), (0, (s : Int)), (9, 0)]) lk_63_118 rfl rfl ?_
                    refine g_iload lk_63_120 rfl ?_
                    refine g_if (t := 127) lk_63_122 rfl (by first | (unfold pm_inI; omega) | exact pm_and_in _ _ | exact pm_shr_in _ _ | exact pm_or_in _ _ | exact pm_xor_in _ _ | exact pm_shl_in _ _ | exact pm_cmp_in _ _ | exact pm_b8_in _ | (unfold pm_inI; split <;> omega)) (fun h3 => ?_) (fun h3 => ?_)
                    · replace h3 : ¬ (s : Int) = 0 := h3
                      refine g_aload_n lk_63_127 rfl ?_
                      refine g_iload_n lk_63_128 rfl ?_
                      refine g_if (t := 136) lk_63_129 rfl (by first | (unfold pm_inI; omega) | exact pm_and_in _ _ | exact pm_shr_in _ _ | exact pm_or_in _ _ | exact pm_xor_in _ _ | exact pm_shl_in _ _ | exact pm_cmp_in _ _ | exact pm_b8_in _ | (unfold pm_inI; split <;> omega)) (fun _ => ?_) (fun h => absurd (show (0 : Int) = (0 : Int) by omega) h)
                      refine g_iconst lk_63_136 ?_
                      refine g_iload lk_63_137 rfl ?_
                      refine g_virtual (p := 12) (Qc := _) lk_63_139 rfl (Nat.le_of_ble_eq_true rfl) rfl rfl (lay1.on (by decide) rfl) (Nat.le_of_ble_eq_true rfl) (Nat.le_of_ble_eq_true rfl) (Nat.zero_le _) (Nat.zero_le _) (c_Nodes_addR1 (d := d + 2) (mc := 0) (ms := 0) (x := 2) (y := s) lay1 hc1 c30) ?_
                      rintro _ K3 ⟨rfl, lay3, ax⟩
                      have tc3 := (ax.nd (by omega)).tc (by omega) (hM.rd rd1)
                      have ad3 := c_Reader_advance (d := d + 1) (mc := 0) (ms := 0) lay3 tc3 (ax.tk (by omega) tk1).2.2.2.1 u1.2.2.1
                      show Wp _ 63 142 [(2, ((2 : Nat) : Int)), (2, ((12 : Nat) : Int)), (0, (dd : Int)), (0, 0), (0, (s : Int)), (9, 0)] [(0, (c : Int))] K3 _ _ _
                      refine g_istore (ls' := [(2, ((2 : Nat) : Int)), (2, ((12 : Nat) : Int)), (0, (dd : Int)), (0, 0), (0, (s : Int)), (0, (c : Int))]) lk_63_142 rfl rfl ?_
                      refine g_aload_n lk_63_144 rfl ?_
                      refine g_virtual (p := 2) (Qc := _) lk_63_145 rfl (Nat.le_of_ble_eq_true rfl) rfl rfl (lay3.on (by decide) rfl) (Nat.le_of_ble_eq_true rfl) (Nat.le_of_ble_eq_true rfl) (Nat.zero_le _) (Nat.zero_le _) (ad3) ?_
                      rintro _ K4 ⟨rfl, lay4, rd4, tk4⟩
                      have F4 : NdF 12 M K4 := (rd1.re.nd.trans (ax.nd (by omega))).trans rd4.re.nd
                      have x3 : Blw M K4 12 c := ((rd1.blw (by omega)).trans ax.blw (Nat.le_refl _)).trans (rd4.blw (c := c) (by omega)) (Nat.le_refl _)
                      have x1 : pm_ct K4 13 c = (2 : Int) := (by rw [rd4.1.ct (by decide)]; exact ax.at.1)
                      have x2 : pm_ct K4 14 c = (s : Int) := (by rw [rd4.1.ct (by decide)]; exact ax.at.2.1)
                      have sv4 : Sv M K4 := (rd1.sv.trans (ax.1.sv (by decide))).trans rd4.sv
                      have g4 := ih (d + 2) 0 0 K4 (dd + 1) (c + 1) c _ (by omega) (by omega) (by omega) lay4 (tc3.rd rd4) tk4 u2 (by rw [F4.c (by omega) (Or.inr rfl)]; exact hR) (by rw [F4.c (by omega) (Or.inr rfl)]; exact hC) (by rw [rd4.1.ct (by decide)]; exact ax.2.1) (by omega)
                      rw [k1] at g4
                      show Wp _ 63 148 [(2, ((2 : Nat) : Int)), (2, ((12 : Nat) : Int)), (0, (dd : Int)), (0, 0), (0, (s : Int)), (0, (c : Int))] [] K4 _ _ _
                      refine g_iload lk_63_148 rfl ?_
                      refine g_if (t := 164) lk_63_150 rfl (by first | (unfold pm_inI; omega) | exact pm_and_in _ _ | exact pm_shr_in _ _ | exact pm_or_in _ _ | exact pm_xor_in _ _ | exact pm_shl_in _ _ | exact pm_cmp_in _ _ | exact pm_b8_in _ | (unfold pm_inI; split <;> omega)) (fun h4 => ?_) (fun h4 => ?_)
                      · replace h4 : (c : Int) < 0 := h4
                        omega
                      · replace h4 : ¬ ((c : Int) < 0) := h4
                        refine g_aload_n lk_63_153 rfl ?_
                        refine g_aload_n lk_63_154 rfl ?_
                        refine g_iload_n lk_63_155 rfl ?_
                        refine g_iconst lk_63_156 ?_
                        refine g_iadd lk_63_157 ?_
                        refine g_virtual (p := 2) (Qc := _) lk_63_158 rfl (Nat.le_of_ble_eq_true rfl) rfl rfl (lay4.on (by decide) rfl) (Nat.le_of_ble_eq_true rfl) (Nat.le_of_ble_eq_true rfl) (Nat.zero_le _) (Nat.zero_le _) (g4) ?_
                        rintro _ K5 ⟨lay5, nf5, rfl, tk5, ct5, sg5, bl5, sv5⟩
                        show Wp _ 63 161 [(2, ((2 : Nat) : Int)), (2, ((12 : Nat) : Int)), (0, (dd : Int)), (0, 0), (0, (s : Int)), (0, (c : Int))] [(0, 1)] K5 _ _ _
                        refine g_if (t := 166) lk_63_161 rfl (by first | (unfold pm_inI; omega) | exact pm_and_in _ _ | exact pm_shr_in _ _ | exact pm_or_in _ _ | exact pm_xor_in _ _ | exact pm_shl_in _ _ | exact pm_cmp_in _ _ | exact pm_b8_in _ | (unfold pm_inI; split <;> omega)) (fun _ => ?_) (fun h => absurd (show ¬ (1 : Int) = (0 : Int) by omega) h)
                        exact step K4 K5 lay5 F4 nf5 x1 x2 x3 tk5 ct5 sg5 bl5 (sv4.trans sv5)
                    · replace h3 : ¬ (¬ (s : Int) = 0) := h3
                      refine g_iconst lk_63_125 ?_
                      refine g_ireturn lk_63_126 (fun _ => by omega) ?_
                      omega
                  · replace h2 : ¬ ((c : Int) < 31) := h2
                    omega
    · rw [pN_no a]
      clear ih
      by_cases e : t.1 = 1
      · have f10' : pm_ct M 2 10 = 1 := by rw [f10, e]; rfl
        obtain ⟨w1, w2, w3, w4, w5⟩ := w27_con (hK.lt e)
        have f13' : pm_ct M 2 13 = ((nr 27 (twd ch t) : Nat) : Int) := f13 e
        obtain ⟨w, hw⟩ : ∃ w, w = nr 27 (twd ch t) := ⟨_, rfl⟩
        have ws : w < 1073741824 := by rw [hw]; exact nr_small (b := 27) (by omega) (by omega) (hK.lt e)
        rw [← hw] at f13' w1 w2 w5
        have n1 : ¬ (w : Int) = 1 := fun k => a ⟨e, Or.inr (Or.inl (w1.mp k))⟩
        have n2 : ¬ (w : Int) = 2 := fun k => a ⟨e, Or.inr (Or.inr (w2.mp k))⟩
        have n3 : ¬ (w : Int) = 239874 := fun k => a ⟨e, Or.inl (w5.mp k)⟩
        clear w1 w2 w3 w4 w5 a
        refine g_aload_n lk_63_0 rfl ?_
        refine m_getfield (u := []) (M := M) lk_63_1 rfl (lay.on (by decide) rfl) (v := 1) f10' ?_
        refine g_iconst lk_63_4 ?_
        refine g_icmp (t := 33) lk_63_5 rfl (by first | (unfold pm_inI; omega) | exact pm_and_in _ _ | exact pm_shr_in _ _ | exact pm_or_in _ _ | exact pm_xor_in _ _ | exact pm_shl_in _ _ | exact pm_cmp_in _ _ | exact pm_b8_in _ | (unfold pm_inI; split <;> omega)) (by first | (unfold pm_inI; omega) | exact pm_and_in _ _ | exact pm_shr_in _ _ | exact pm_or_in _ _ | exact pm_xor_in _ _ | exact pm_shl_in _ _ | exact pm_cmp_in _ _ | exact pm_b8_in _ | (unfold pm_inI; split <;> omega)) (fun h => absurd h (show ¬ (¬ (1 : Int) = (1 : Int)) by omega)) (fun _ => ?_)
        refine g_aload_n lk_63_8 rfl ?_
        refine m_getfield (u := []) (M := M) lk_63_9 rfl (lay.on (by decide) rfl) (v := (w : Int)) f13' ?_
        refine g_ldc lk_63_12 ?_
        refine g_icmp (t := 39) lk_63_14 rfl (by first | (unfold pm_inI; omega) | exact pm_and_in _ _ | exact pm_shr_in _ _ | exact pm_or_in _ _ | exact pm_xor_in _ _ | exact pm_shl_in _ _ | exact pm_cmp_in _ _ | exact pm_b8_in _ | (unfold pm_inI; split <;> omega)) (by first | (unfold pm_inI; omega) | exact pm_and_in _ _ | exact pm_shr_in _ _ | exact pm_or_in _ _ | exact pm_xor_in _ _ | exact pm_shl_in _ _ | exact pm_cmp_in _ _ | exact pm_b8_in _ | (unfold pm_inI; split <;> omega)) (fun h1 => ?_) (fun h1 => ?_)
        · replace h1 : (w : Int) = 239874 := h1
          omega
        · replace h1 : ¬ ((w : Int) = 239874) := h1
          refine g_aload_n lk_63_17 rfl ?_
          refine m_getfield (u := []) (M := M) lk_63_18 rfl (lay.on (by decide) rfl) (v := (w : Int)) f13' ?_
          refine g_iconst lk_63_21 ?_
          refine g_icmp (t := 39) lk_63_22 rfl (by first | (unfold pm_inI; omega) | exact pm_and_in _ _ | exact pm_shr_in _ _ | exact pm_or_in _ _ | exact pm_xor_in _ _ | exact pm_shl_in _ _ | exact pm_cmp_in _ _ | exact pm_b8_in _ | (unfold pm_inI; split <;> omega)) (by first | (unfold pm_inI; omega) | exact pm_and_in _ _ | exact pm_shr_in _ _ | exact pm_or_in _ _ | exact pm_xor_in _ _ | exact pm_shl_in _ _ | exact pm_cmp_in _ _ | exact pm_b8_in _ | (unfold pm_inI; split <;> omega)) (fun h2 => ?_) (fun h2 => ?_)
          · replace h2 : (w : Int) = 1 := h2
            omega
          · replace h2 : ¬ ((w : Int) = 1) := h2
            refine g_aload_n lk_63_25 rfl ?_
            refine m_getfield (u := []) (M := M) lk_63_26 rfl (lay.on (by decide) rfl) (v := (w : Int)) f13' ?_
            refine g_iconst lk_63_29 ?_
            refine g_icmp (t := 39) lk_63_30 rfl (by first | (unfold pm_inI; omega) | exact pm_and_in _ _ | exact pm_shr_in _ _ | exact pm_or_in _ _ | exact pm_xor_in _ _ | exact pm_shl_in _ _ | exact pm_cmp_in _ _ | exact pm_b8_in _ | (unfold pm_inI; split <;> omega)) (by first | (unfold pm_inI; omega) | exact pm_and_in _ _ | exact pm_shr_in _ _ | exact pm_or_in _ _ | exact pm_xor_in _ _ | exact pm_shl_in _ _ | exact pm_cmp_in _ _ | exact pm_b8_in _ | (unfold pm_inI; split <;> omega)) (fun h3 => ?_) (fun h3 => ?_)
            · replace h3 : (w : Int) = 2 := h3
              omega
            · replace h3 : ¬ ((w : Int) = 2) := h3
              refine g_aload_n lk_63_33 rfl ?_
              refine g_iconst lk_63_34 ?_
              refine g_virtual (p := 2) (Qc := _) lk_63_35 rfl (Nat.le_of_ble_eq_true rfl) rfl rfl (lay.on (by decide) rfl) (Nat.le_of_ble_eq_true rfl) (Nat.le_of_ble_eq_true rfl) (Nat.zero_le _) (Nat.zero_le _) (rf2) ?_
              rintro _ K1 ⟨rfl, lay1, re1, ft1⟩
              show Wp _ 63 38 [(2, ((2 : Nat) : Int)), (2, ((12 : Nat) : Int)), (0, (dd : Int)), (9, 0), (9, 0), (9, 0)] [(0, 0)] K1 _ _ _
              refine g_ireturn lk_63_38 (fun _ => by omega) ?_
              exact ⟨lay1, re1.nd, rfl, ft1⟩
      · obtain ⟨K, hk⟩ : ∃ K, K = t.1 := ⟨_, rfl⟩
        rw [← hk] at f10 t4 e
        clear a
        refine g_aload_n lk_63_0 rfl ?_
        refine m_getfield (u := []) (M := M) lk_63_1 rfl (lay.on (by decide) rfl) (v := (K : Int)) f10 ?_
        refine g_iconst lk_63_4 ?_
        refine g_icmp (t := 33) lk_63_5 rfl (by first | (unfold pm_inI; omega) | exact pm_and_in _ _ | exact pm_shr_in _ _ | exact pm_or_in _ _ | exact pm_xor_in _ _ | exact pm_shl_in _ _ | exact pm_cmp_in _ _ | exact pm_b8_in _ | (unfold pm_inI; split <;> omega)) (by first | (unfold pm_inI; omega) | exact pm_and_in _ _ | exact pm_shr_in _ _ | exact pm_or_in _ _ | exact pm_xor_in _ _ | exact pm_shl_in _ _ | exact pm_cmp_in _ _ | exact pm_b8_in _ | (unfold pm_inI; split <;> omega)) (fun h1 => ?_) (fun h1 => ?_)
        · replace h1 : ¬ (K : Int) = 1 := h1
          refine g_aload_n lk_63_33 rfl ?_
          refine g_iconst lk_63_34 ?_
          refine g_virtual (p := 2) (Qc := _) lk_63_35 rfl (Nat.le_of_ble_eq_true rfl) rfl rfl (lay.on (by decide) rfl) (Nat.le_of_ble_eq_true rfl) (Nat.le_of_ble_eq_true rfl) (Nat.zero_le _) (Nat.zero_le _) (rf2) ?_
          rintro _ K1 ⟨rfl, lay1, re1, ft1⟩
          show Wp _ 63 38 [(2, ((2 : Nat) : Int)), (2, ((12 : Nat) : Int)), (0, (dd : Int)), (9, 0), (9, 0), (9, 0)] [(0, 0)] K1 _ _ _
          refine g_ireturn lk_63_38 (fun _ => by omega) ?_
          exact ⟨lay1, re1.nd, rfl, ft1⟩
        · replace h1 : ¬ (¬ (K : Int) = 1) := h1
          omega
theorem c_Nodes_addR2 {d mc ms : Nat} {M : pm_M} (lay : Lay M) {k x y : Nat} (hk : pm_ct M 16 3 = (k : Int)) (k31 : k < 31) :
    pm_E d 36 [(2, ((16 : Nat) : Int)), (0, (x : Int)), (0, (y : Int))] M mc ms (fun ρ M' => ρ = some (0, (k : Int)) ∧ Lay M' ∧ AdX M M' 16 k x y) := by
  show Wp d 36 0 [(2, ((16 : Nat) : Int)), (0, (x : Int)), (0, (y : Int))] [] M mc ms _
  refine g_aload_n lk_36_0 rfl ?_
  refine m_getfield (u := []) (M := M) lk_36_1 rfl (lay.on (by decide) rfl) (v := (k : Int)) hk ?_
  refine g_aload_n lk_36_4 rfl ?_
  refine g_getfield lk_36_5 rfl (lay.on (by decide) rfl) (v := ((17 : Nat) : Int)) (lay.rf rfl) ?_
  refine g_arraylength (n := 31) lk_36_8 (by decide) (lay.ay (by decide) rfl) ?_
  refine g_icmp (t := 14) lk_36_9 rfl (by first | (unfold pm_inI; omega) | exact pm_and_in _ _ | exact pm_shr_in _ _ | exact pm_or_in _ _ | exact pm_xor_in _ _ | exact pm_shl_in _ _ | exact pm_cmp_in _ _ | exact pm_b8_in _ | (unfold pm_inI; split <;> omega)) (by first | (unfold pm_inI; omega) | exact pm_and_in _ _ | exact pm_shr_in _ _ | exact pm_or_in _ _ | exact pm_xor_in _ _ | exact pm_shl_in _ _ | exact pm_cmp_in _ _ | exact pm_b8_in _ | (unfold pm_inI; split <;> omega)) (fun h1 => ?_) (fun h1 => ?_)
  · replace h1 : (k : Int) < 31 := h1
    refine g_aload_n lk_36_14 rfl ?_
    refine g_getfield lk_36_15 rfl (lay.on (by decide) rfl) (v := ((17 : Nat) : Int)) (lay.rf rfl) ?_
    refine g_aload_n lk_36_18 rfl ?_
    refine m_getfield (u := []) (M := M) lk_36_19 rfl (lay.on (by decide) rfl) (v := (k : Int)) hk ?_
    refine g_iload_n lk_36_22 rfl ?_
    have lay2 : Lay (Mu [(17, pm_upd (pm_ct M 17) k (x : Int))] M) := lay.muA (l := []) (a := 17) (f := pm_upd (pm_ct M 17) k (x : Int)) rfl rfl
    refine m_iastore (u := []) (u' := [(17, pm_upd (pm_ct M 17) k (x : Int))]) (M := M) lk_36_23 (lay.ay (by decide) rfl) (by omega) (j := k) (by omega) rfl ?_
    refine g_aload_n lk_36_24 rfl ?_
    refine g_getfield lk_36_25 rfl (lay2.on (by decide) rfl) (v := ((18 : Nat) : Int)) (lay2.rf rfl) ?_
    refine g_aload_n lk_36_28 rfl ?_
    refine m_getfield (u := [(17, pm_upd (pm_ct M 17) k (x : Int))]) (M := M) lk_36_29 rfl (lay2.on (by decide) rfl) (v := (k : Int)) hk ?_
    refine g_iload_n lk_36_32 rfl ?_
    have lay3 : Lay (Mu [(17, pm_upd (pm_ct M 17) k (x : Int)), (18, pm_upd (pm_ct M 18) k (y : Int))] M) := lay2.muA (l := [(17, pm_upd (pm_ct M 17) k (x : Int))]) (a := 18) (f := pm_upd (pm_ct M 18) k (y : Int)) rfl rfl
    refine m_iastore (u := [(17, pm_upd (pm_ct M 17) k (x : Int))]) (u' := [(17, pm_upd (pm_ct M 17) k (x : Int)), (18, pm_upd (pm_ct M 18) k (y : Int))]) (M := M) lk_36_33 (lay2.ay (by decide) rfl) (by omega) (j := k) (by omega) rfl ?_
    refine g_aload_n lk_36_34 rfl ?_
    refine g_getfield lk_36_35 rfl (lay3.on (by decide) rfl) (v := ((19 : Nat) : Int)) (lay3.rf rfl) ?_
    refine g_aload_n lk_36_38 rfl ?_
    refine m_getfield (u := [(17, pm_upd (pm_ct M 17) k (x : Int)), (18, pm_upd (pm_ct M 18) k (y : Int))]) (M := M) lk_36_39 rfl (lay3.on (by decide) rfl) (v := (k : Int)) hk ?_
    refine g_iconst lk_36_42 ?_
    have lay4 : Lay (Mu [(17, pm_upd (pm_ct M 17) k (x : Int)), (18, pm_upd (pm_ct M 18) k (y : Int)), (19, pm_upd (pm_ct M 19) k (-1))] M) := lay3.muA (l := [(17, pm_upd (pm_ct M 17) k (x : Int)), (18, pm_upd (pm_ct M 18) k (y : Int))]) (a := 19) (f := pm_upd (pm_ct M 19) k (-1)) rfl rfl
    refine m_iastore (u := [(17, pm_upd (pm_ct M 17) k (x : Int)), (18, pm_upd (pm_ct M 18) k (y : Int))]) (u' := [(17, pm_upd (pm_ct M 17) k (x : Int)), (18, pm_upd (pm_ct M 18) k (y : Int)), (19, pm_upd (pm_ct M 19) k (-1))]) (M := M) lk_36_43 (lay3.ay (by decide) rfl) (by omega) (j := k) (by omega) rfl ?_
    refine g_aload_n lk_36_44 rfl ?_
    refine g_dup lk_36_45 rfl ?_
    refine m_getfield (u := [(17, pm_upd (pm_ct M 17) k (x : Int)), (18, pm_upd (pm_ct M 18) k (y : Int)), (19, pm_upd (pm_ct M 19) k (-1))]) (M := M) lk_36_46 rfl (lay4.on (by decide) rfl) (v := (k : Int)) hk ?_
    refine g_iconst lk_36_49 ?_
    refine g_iadd lk_36_50 ?_
    have lay5 : Lay (Mu [(17, pm_upd (pm_ct M 17) k (x : Int)), (18, pm_upd (pm_ct M 18) k (y : Int)), (19, pm_upd (pm_ct M 19) k (-1)), (16, pm_upd (pm_ct M 16) 3 ((k : Int) + 1))] M) := lay4.muF (l := [(17, pm_upd (pm_ct M 17) k (x : Int)), (18, pm_upd (pm_ct M 18) k (y : Int)), (19, pm_upd (pm_ct M 19) k (-1))]) (a := 16) (k := 3) (z := ((k : Int) + 1)) rfl rfl
    refine m_putfield (u := [(17, pm_upd (pm_ct M 17) k (x : Int)), (18, pm_upd (pm_ct M 18) k (y : Int)), (19, pm_upd (pm_ct M 19) k (-1))]) (u' := [(17, pm_upd (pm_ct M 17) k (x : Int)), (18, pm_upd (pm_ct M 18) k (y : Int)), (19, pm_upd (pm_ct M 19) k (-1)), (16, pm_upd (pm_ct M 16) 3 ((k : Int) + 1))]) (M := M) lk_36_51 rfl (lay4.on (by decide) rfl) (fun h => absurd h (by decide)) rfl ?_
    refine g_aload_n lk_36_54 rfl ?_
    refine m_getfield (u := [(17, pm_upd (pm_ct M 17) k (x : Int)), (18, pm_upd (pm_ct M 18) k (y : Int)), (19, pm_upd (pm_ct M 19) k (-1)), (16, pm_upd (pm_ct M 16) 3 ((k : Int) + 1))]) (M := M) lk_36_55 rfl (lay5.on (by decide) rfl) (v := ((k : Int) + 1)) rfl ?_
    refine g_iconst lk_36_58 ?_
    refine g_isub lk_36_59 ?_
    refine g_ireturn lk_36_60 (fun h => absurd h (by decide)) ?_
    refine ⟨?_, lay5, Fr.mu _ _ rfl, by rw [Mu_ct]; rfl, by rw [Mu_ct]; rfl, by rw [Mu_ct]; rfl, by rw [Mu_ct]; rfl⟩
    congr 2
    omega
  · replace h1 : ¬ ((k : Int) < 31) := h1
    refine g_iconst lk_36_12 ?_
    refine g_ireturn lk_36_13 (fun h => absurd h (by decide)) ?_
    omega
theorem c_Reader_readLeaf2 {d mc ms : Nat} {M : pm_M} (lay : Lay M) {n : Nat} {ch : Nat → Nat} (hM : TcX M n ch) {t : Tok} (hT : TkX M ch t) (hK : TkOK ch n t) {c : Nat} (hc : pm_ct M 16 3 = (c : Int)) (c31 : c < 31) :
    pm_E (d + 2) 64 [(2, ((2 : Nat) : Int)), (2, ((16 : Nat) : Int))] M mc ms (fun ρ M' => Lay M' ∧ NdF 16 M M' ∧ ResX ρ M' (fun v => TkX M' ch (lxt ch n (lxt ch n t.2.2).2.2) ∧ pm_ct M' 16 3 = ((c + 1 : Nat) : Int) ∧ SgAt M' 16 c [(0, v, -1)] ∧ Blw M M' 16 c ∧ Sv M M') (pNum ch 0 (lxt ch n t.2.2))) := by
  have n5 := hM.1
  have ad := c_Reader_advance (d := d) (mc := 0) (ms := 0) lay hM hT.2.2.2.1 hK.2.2.1
  have uk := (lxt_ok (ch := ch) hK.2.2.1 n5).1
  obtain ⟨u, hu⟩ : ∃ u, u = lxt ch n t.2.2 := ⟨_, rfl⟩
  rw [← hu] at uk ad ⊢
  show Wp (d + 2) 64 0 [(2, ((2 : Nat) : Int)), (2, ((16 : Nat) : Int))] [] M mc ms _
  cases hp : pNum ch 0 u with
  | inl e =>
    refine g_aload_n lk_64_0 rfl ?_
    refine g_virtual (p := 2) (Qc := _) lk_64_1 rfl (Nat.le_of_ble_eq_true rfl) rfl rfl (lay.on (by decide) rfl) (Nat.le_of_ble_eq_true rfl) (Nat.le_of_ble_eq_true rfl) (Nat.zero_le _) (Nat.zero_le _) (ad) ?_
    rintro _ K1 ⟨rfl, lay1, rd1, tk1⟩
    have inf := c_Reader_isNumberFrom (d := d) (mc := 0) (ms := 0) lay1 (hM.rd rd1) tk1 uk (l := 0) (by omega)
    rw [hp] at inf
    show Wp _ 64 4 [(2, ((2 : Nat) : Int)), (2, ((16 : Nat) : Int))] [] K1 _ _ _
    refine g_aload_n lk_64_4 rfl ?_
    refine g_iconst lk_64_5 ?_
    refine g_virtual (p := 2) (Qc := _) lk_64_6 rfl (Nat.le_of_ble_eq_true rfl) rfl rfl (lay1.on (by decide) rfl) (Nat.le_of_ble_eq_true rfl) (Nat.le_of_ble_eq_true rfl) (Nat.zero_le _) (Nat.zero_le _) (inf) ?_
    rintro _ K2 ⟨lay2, re2, rfl, ft2⟩
    show Wp _ 64 9 [(2, ((2 : Nat) : Int)), (2, ((16 : Nat) : Int))] [(0, 0)] K2 _ _ _
    refine g_if (t := 14) lk_64_9 rfl (by first | (unfold pm_inI; omega) | exact pm_and_in _ _ | exact pm_shr_in _ _ | exact pm_or_in _ _ | exact pm_xor_in _ _ | exact pm_shl_in _ _ | exact pm_cmp_in _ _ | exact pm_b8_in _ | (unfold pm_inI; split <;> omega)) (fun h => absurd h (show ¬ (¬ (0 : Int) = (0 : Int)) by omega)) (fun _ => ?_)
    refine g_iconst lk_64_12 ?_
    refine g_ireturn lk_64_13 (fun _ => by omega) ?_
    exact ⟨lay2, rd1.re.nd.trans re2.nd, rfl, ft2⟩
  | inr v =>
    obtain ⟨p1, p2, p3, p4⟩ := pNum_inr hp
    have ev : (ch u.2.1 : Int) - 48 = (v : Int) := by omega
    obtain ⟨x, hx⟩ : ∃ x, x = ch u.2.1 := ⟨_, rfl⟩
    rw [← hx] at ev
    have v9 : v ≤ 9 := by
      have := run_ch uk p1 (i := u.2.1) (by omega) (by omega)
      omega
    refine g_aload_n lk_64_0 rfl ?_
    refine g_virtual (p := 2) (Qc := _) lk_64_1 rfl (Nat.le_of_ble_eq_true rfl) rfl rfl (lay.on (by decide) rfl) (Nat.le_of_ble_eq_true rfl) (Nat.le_of_ble_eq_true rfl) (Nat.zero_le _) (Nat.zero_le _) (ad) ?_
    rintro _ K1 ⟨rfl, lay1, rd1, tk1⟩
    have inf := c_Reader_isNumberFrom (d := d) (mc := 0) (ms := 0) lay1 (hM.rd rd1) tk1 uk (l := 0) (by omega)
    rw [hp] at inf
    have sg := c_Reader_sign0 (d := d + 1) (mc := 0) (ms := 0) lay1 (hM.rd rd1) tk1 uk p1 hx
    have hc1 : pm_ct K1 16 3 = (c : Int) := (by rw [rd1.1.ct (by decide)]; exact hc)
    show Wp _ 64 4 [(2, ((2 : Nat) : Int)), (2, ((16 : Nat) : Int))] [] K1 _ _ _
    refine g_aload_n lk_64_4 rfl ?_
    refine g_iconst lk_64_5 ?_
    refine g_virtual (p := 2) (Qc := _) lk_64_6 rfl (Nat.le_of_ble_eq_true rfl) rfl rfl (lay1.on (by decide) rfl) (Nat.le_of_ble_eq_true rfl) (Nat.le_of_ble_eq_true rfl) (Nat.zero_le _) (Nat.zero_le _) (inf) ?_
    rintro _ K2 ⟨lay2, re2, rfl, eK⟩
    rw [eK]
    show Wp _ 64 9 [(2, ((2 : Nat) : Int)), (2, ((16 : Nat) : Int))] [(0, 1)] K1 _ _ _
    refine g_if (t := 14) lk_64_9 rfl (by first | (unfold pm_inI; omega) | exact pm_and_in _ _ | exact pm_shr_in _ _ | exact pm_or_in _ _ | exact pm_xor_in _ _ | exact pm_shl_in _ _ | exact pm_cmp_in _ _ | exact pm_b8_in _ | (unfold pm_inI; split <;> omega)) (fun _ => ?_) (fun h => absurd (show ¬ (1 : Int) = (0 : Int) by omega) h)
    refine g_aload_n lk_64_14 rfl ?_
    refine g_iconst lk_64_15 ?_
    refine g_aload_n lk_64_16 rfl ?_
    refine g_iconst lk_64_17 ?_
    refine g_virtual (p := 2) (Qc := _) lk_64_18 rfl (Nat.le_of_ble_eq_true rfl) rfl rfl (lay1.on (by decide) rfl) (Nat.le_of_ble_eq_true rfl) (Nat.le_of_ble_eq_true rfl) (Nat.zero_le _) (Nat.zero_le _) (sg) ?_
    rintro _ N1 ⟨rfl, hN1⟩
    rw [hN1]
    show Wp _ 64 21 [(2, ((2 : Nat) : Int)), (2, ((16 : Nat) : Int))] [(0, (x : Int)), (0, 0), (2, ((16 : Nat) : Int))] K1 _ _ _
    refine g_bipush lk_64_21 ?_
    refine g_isub lk_64_23 ?_
    refine g_top (z := ((x : Int) - 48)) (z' := (v : Int)) (ev) ?_
    refine g_virtual (p := 16) (Qc := _) lk_64_24 rfl (Nat.le_of_ble_eq_true rfl) rfl rfl (lay1.on (by decide) rfl) (Nat.le_of_ble_eq_true rfl) (Nat.le_of_ble_eq_true rfl) (Nat.zero_le _) (Nat.zero_le _) (c_Nodes_addR2 (d := d + 1) (mc := 0) (ms := 0) (x := 0) lay1 hc1 c31) ?_
    rintro _ K3 ⟨rfl, lay3, ax⟩
    have ad3 := c_Reader_advance (d := d) (mc := 0) (ms := 0) lay3 ((ax.nd (by omega)).tc (by omega) (hM.rd rd1)) (ax.tk (by omega) tk1).2.2.2.1 uk.2.2.1
    show Wp _ 64 27 [(2, ((2 : Nat) : Int)), (2, ((16 : Nat) : Int))] [(0, (c : Int))] K3 _ _ _
    refine g_pop lk_64_27 rfl ?_
    refine g_aload_n lk_64_28 rfl ?_
    refine g_virtual (p := 2) (Qc := _) lk_64_29 rfl (Nat.le_of_ble_eq_true rfl) rfl rfl (lay3.on (by decide) rfl) (Nat.le_of_ble_eq_true rfl) (Nat.le_of_ble_eq_true rfl) (Nat.zero_le _) (Nat.zero_le _) (ad3) ?_
    rintro _ K4 ⟨rfl, lay4, rd4, tk4⟩
    show Wp _ 64 32 [(2, ((2 : Nat) : Int)), (2, ((16 : Nat) : Int))] [] K4 _ _ _
    refine g_iconst lk_64_32 ?_
    refine g_ireturn lk_64_33 (fun _ => by omega) ?_
    obtain ⟨a1, a2, a3⟩ := ax.at
    have b4 : Blw K3 K4 16 (c + 1) := rd4.blw (by omega)
    obtain ⟨q1, q2, q3⟩ := b4 c (by omega)
    exact ⟨lay4, (rd1.re.nd.trans (ax.nd (by omega))).trans rd4.re.nd, rfl, tk4, by rw [rd4.1.ct (by decide)]; exact ax.2.1, (fun i y hy => by
      cases i with
      | zero =>
        rw [List.getElem?_cons_zero] at hy
        cases hy
        exact ⟨q1.trans a1, q2.trans a2, q3.trans a3⟩
      | succ i => cases hy), ((rd1.blw (by omega)).trans ax.blw (Nat.le_refl _)).trans b4 (by omega), (rd1.sv.trans (ax.1.sv (by decide))).trans rd4.sv⟩
set_option maxHeartbeats 8000000 in
theorem c_Reader_readNode2 {n R C : Nat} {ch : Nat → Nat} (r6 : R ≤ 6) (c6 : C ≤ 6) : ∀ (f D mc ms : Nat) (M : pm_M) (dd c q : Nat) (t : Tok), f + 2 ≤ D → dd + f = 10 → dd ≤ 9 → Lay M → TcX M n ch → TkX M ch t → TkOK ch n t → pm_ct M 4 1 = (R : Int) → pm_ct M 4 2 = (C : Int) → pm_ct M 16 3 = (c : Int) → c ≤ 31 →
    pm_E D 63 [(2, ((2 : Nat) : Int)), (2, ((16 : Nat) : Int)), (0, (dd : Int))] M mc ms (fun ρ M' => Lay M' ∧ NdF 16 M M' ∧ ResX ρ M' (fun x => TkX M' ch x.2 ∧ pm_ct M' 16 3 = ((c + x.1.length : Nat) : Int) ∧ SgAt M' 16 c (x.1.map (fun y => y.1)) ∧ Blw M M' 16 c ∧ Sv M M') (pN ch n R C f dd c q t)) := by
  intro f
  induction f with
  | zero =>
    intro D mc ms M dd c q t _ g1 g2
    exfalso
    omega
  | succ f ih =>
    intro D mc ms M dd c q t g1 g2 g3 lay hM hT hK hR hC hc c31
    obtain ⟨d, rfl⟩ : ∃ d, D = d + 3 := ⟨D - 3, by omega⟩
    have n5 := hM.1
    have t4 := hK.1
    have f10 := hT.1
    have f13 := hT.2.2.2.2
    show Wp (d + 3) 63 0 [(2, ((2 : Nat) : Int)), (2, ((16 : Nat) : Int)), (0, (dd : Int)), (9, 0), (9, 0), (9, 0)] [] M mc ms _
    have rf2 := c_Reader_refuse (d := d + 2) (mc := 0) (ms := 0) lay hT hK.1 (w := 2)
    have rf5 := c_Reader_refuse (d := d + 2) (mc := 0) (ms := 0) lay hT hK.1 (w := 5)
    by_cases a : isNd ch t
    · have f10' : pm_ct M 2 10 = 1 := by rw [f10, a.1]; rfl
      have lt := hK.lt a.1
      obtain ⟨w1, w2, w3, w4, w5⟩ := w27_con lt
      have f13' : pm_ct M 2 13 = ((nr 27 (twd ch t) : Nat) : Int) := f13 a.1
      by_cases b : 9 ≤ dd ∨ 31 ≤ c
      · rw [pN_full a b]
        obtain ⟨w, hw⟩ : ∃ w, w = nr 27 (twd ch t) := ⟨_, rfl⟩
        have w3' : w = 239874 ∨ w = 1 ∨ w = 2 := by
          rw [hw]
          rcases a.2 with e | e | e
          · have := w5.mpr e; omega
          · have := w1.mpr e; omega
          · have := w2.mpr e; omega
        rw [← hw] at f13'
        clear ih w1 w2 w3 w4 w5 a
        refine g_aload_n lk_63_0 rfl ?_
        refine m_getfield (u := []) (M := M) lk_63_1 rfl (lay.on (by decide) rfl) (v := 1) f10' ?_
        refine g_iconst lk_63_4 ?_
        refine g_icmp (t := 33) lk_63_5 rfl (by first | (unfold pm_inI; omega) | exact pm_and_in _ _ | exact pm_shr_in _ _ | exact pm_or_in _ _ | exact pm_xor_in _ _ | exact pm_shl_in _ _ | exact pm_cmp_in _ _ | exact pm_b8_in _ | (unfold pm_inI; split <;> omega)) (by first | (unfold pm_inI; omega) | exact pm_and_in _ _ | exact pm_shr_in _ _ | exact pm_or_in _ _ | exact pm_xor_in _ _ | exact pm_shl_in _ _ | exact pm_cmp_in _ _ | exact pm_b8_in _ | (unfold pm_inI; split <;> omega)) (fun h => absurd h (show ¬ (¬ (1 : Int) = (1 : Int)) by omega)) (fun _ => ?_)
        refine g_aload_n lk_63_8 rfl ?_
        refine m_getfield (u := []) (M := M) lk_63_9 rfl (lay.on (by decide) rfl) (v := (w : Int)) f13' ?_
        refine g_ldc lk_63_12 ?_
        refine g_icmp (t := 39) lk_63_14 rfl (by first | (unfold pm_inI; omega) | exact pm_and_in _ _ | exact pm_shr_in _ _ | exact pm_or_in _ _ | exact pm_xor_in _ _ | exact pm_shl_in _ _ | exact pm_cmp_in _ _ | exact pm_b8_in _ | (unfold pm_inI; split <;> omega)) (by first | (unfold pm_inI; omega) | exact pm_and_in _ _ | exact pm_shr_in _ _ | exact pm_or_in _ _ | exact pm_xor_in _ _ | exact pm_shl_in _ _ | exact pm_cmp_in _ _ | exact pm_b8_in _ | (unfold pm_inI; split <;> omega)) (fun h1 => ?_) (fun h1 => ?_)
        · replace h1 : (w : Int) = 239874 := h1
          refine g_iload_n lk_63_39 rfl ?_
          refine g_bipush lk_63_40 ?_
          refine g_icmp (t := 54) lk_63_42 rfl (by first | (unfold pm_inI; omega) | exact pm_and_in _ _ | exact pm_shr_in _ _ | exact pm_or_in _ _ | exact pm_xor_in _ _ | exact pm_shl_in _ _ | exact pm_cmp_in _ _ | exact pm_b8_in _ | (unfold pm_inI; split <;> omega)) (by first | (unfold pm_inI; omega) | exact pm_and_in _ _ | exact pm_shr_in _ _ | exact pm_or_in _ _ | exact pm_xor_in _ _ | exact pm_shl_in _ _ | exact pm_cmp_in _ _ | exact pm_b8_in _ | (unfold pm_inI; split <;> omega)) (fun h2 => ?_) (fun h2 => ?_)
          · replace h2 : 9 ≤ (dd : Int) := h2
            refine g_aload_n lk_63_54 rfl ?_
            refine g_iconst lk_63_55 ?_
            refine g_virtual (p := 2) (Qc := _) lk_63_56 rfl (Nat.le_of_ble_eq_true rfl) rfl rfl (lay.on (by decide) rfl) (Nat.le_of_ble_eq_true rfl) (Nat.le_of_ble_eq_true rfl) (Nat.zero_le _) (Nat.zero_le _) (rf5) ?_
            rintro _ K1 ⟨rfl, lay1, re1, ft1⟩
            show Wp _ 63 59 [(2, ((2 : Nat) : Int)), (2, ((16 : Nat) : Int)), (0, (dd : Int)), (9, 0), (9, 0), (9, 0)] [(0, 0)] K1 _ _ _
            refine g_ireturn lk_63_59 (fun _ => by omega) ?_
            exact ⟨lay1, re1.nd, rfl, ft1⟩
          · replace h2 : ¬ (9 ≤ (dd : Int)) := h2
            refine g_aload_n lk_63_45 rfl ?_
            refine m_getfield (u := []) (M := M) lk_63_46 rfl (lay.on (by decide) rfl) (v := (c : Int)) hc ?_
            refine g_bipush lk_63_49 ?_
            refine g_icmp (t := 60) lk_63_51 rfl (by first | (unfold pm_inI; omega) | exact pm_and_in _ _ | exact pm_shr_in _ _ | exact pm_or_in _ _ | exact pm_xor_in _ _ | exact pm_shl_in _ _ | exact pm_cmp_in _ _ | exact pm_b8_in _ | (unfold pm_inI; split <;> omega)) (by first | (unfold pm_inI; omega) | exact pm_and_in _ _ | exact pm_shr_in _ _ | exact pm_or_in _ _ | exact pm_xor_in _ _ | exact pm_shl_in _ _ | exact pm_cmp_in _ _ | exact pm_b8_in _ | (unfold pm_inI; split <;> omega)) (fun h3 => ?_) (fun h3 => ?_)
            · replace h3 : (c : Int) < 31 := h3
              omega
            · replace h3 : ¬ ((c : Int) < 31) := h3
              refine g_aload_n lk_63_54 rfl ?_
              refine g_iconst lk_63_55 ?_
              refine g_virtual (p := 2) (Qc := _) lk_63_56 rfl (Nat.le_of_ble_eq_true rfl) rfl rfl (lay.on (by decide) rfl) (Nat.le_of_ble_eq_true rfl) (Nat.le_of_ble_eq_true rfl) (Nat.zero_le _) (Nat.zero_le _) (rf5) ?_
              rintro _ K1 ⟨rfl, lay1, re1, ft1⟩
              show Wp _ 63 59 [(2, ((2 : Nat) : Int)), (2, ((16 : Nat) : Int)), (0, (dd : Int)), (9, 0), (9, 0), (9, 0)] [(0, 0)] K1 _ _ _
              refine g_ireturn lk_63_59 (fun _ => by omega) ?_
              exact ⟨lay1, re1.nd, rfl, ft1⟩
        · replace h1 : ¬ ((w : Int) = 239874) := h1
          refine g_aload_n lk_63_17 rfl ?_
          refine m_getfield (u := []) (M := M) lk_63_18 rfl (lay.on (by decide) rfl) (v := (w : Int)) f13' ?_
          refine g_iconst lk_63_21 ?_
          refine g_icmp (t := 39) lk_63_22 rfl (by first | (unfold pm_inI; omega) | exact pm_and_in _ _ | exact pm_shr_in _ _ | exact pm_or_in _ _ | exact pm_xor_in _ _ | exact pm_shl_in _ _ | exact pm_cmp_in _ _ | exact pm_b8_in _ | (unfold pm_inI; split <;> omega)) (by first | (unfold pm_inI; omega) | exact pm_and_in _ _ | exact pm_shr_in _ _ | exact pm_or_in _ _ | exact pm_xor_in _ _ | exact pm_shl_in _ _ | exact pm_cmp_in _ _ | exact pm_b8_in _ | (unfold pm_inI; split <;> omega)) (fun h4 => ?_) (fun h4 => ?_)
          · replace h4 : (w : Int) = 1 := h4
            refine g_iload_n lk_63_39 rfl ?_
            refine g_bipush lk_63_40 ?_
            refine g_icmp (t := 54) lk_63_42 rfl (by first | (unfold pm_inI; omega) | exact pm_and_in _ _ | exact pm_shr_in _ _ | exact pm_or_in _ _ | exact pm_xor_in _ _ | exact pm_shl_in _ _ | exact pm_cmp_in _ _ | exact pm_b8_in _ | (unfold pm_inI; split <;> omega)) (by first | (unfold pm_inI; omega) | exact pm_and_in _ _ | exact pm_shr_in _ _ | exact pm_or_in _ _ | exact pm_xor_in _ _ | exact pm_shl_in _ _ | exact pm_cmp_in _ _ | exact pm_b8_in _ | (unfold pm_inI; split <;> omega)) (fun h5 => ?_) (fun h5 => ?_)
            · replace h5 : 9 ≤ (dd : Int) := h5
              refine g_aload_n lk_63_54 rfl ?_
              refine g_iconst lk_63_55 ?_
              refine g_virtual (p := 2) (Qc := _) lk_63_56 rfl (Nat.le_of_ble_eq_true rfl) rfl rfl (lay.on (by decide) rfl) (Nat.le_of_ble_eq_true rfl) (Nat.le_of_ble_eq_true rfl) (Nat.zero_le _) (Nat.zero_le _) (rf5) ?_
              rintro _ K1 ⟨rfl, lay1, re1, ft1⟩
              show Wp _ 63 59 [(2, ((2 : Nat) : Int)), (2, ((16 : Nat) : Int)), (0, (dd : Int)), (9, 0), (9, 0), (9, 0)] [(0, 0)] K1 _ _ _
              refine g_ireturn lk_63_59 (fun _ => by omega) ?_
              exact ⟨lay1, re1.nd, rfl, ft1⟩
            · replace h5 : ¬ (9 ≤ (dd : Int)) := h5
              refine g_aload_n lk_63_45 rfl ?_
              refine m_getfield (u := []) (M := M) lk_63_46 rfl (lay.on (by decide) rfl) (v := (c : Int)) hc ?_
              refine g_bipush lk_63_49 ?_
              refine g_icmp (t := 60) lk_63_51 rfl (by first | (unfold pm_inI; omega) | exact pm_and_in _ _ | exact pm_shr_in _ _ | exact pm_or_in _ _ | exact pm_xor_in _ _ | exact pm_shl_in _ _ | exact pm_cmp_in _ _ | exact pm_b8_in _ | (unfold pm_inI; split <;> omega)) (by first | (unfold pm_inI; omega) | exact pm_and_in _ _ | exact pm_shr_in _ _ | exact pm_or_in _ _ | exact pm_xor_in _ _ | exact pm_shl_in _ _ | exact pm_cmp_in _ _ | exact pm_b8_in _ | (unfold pm_inI; split <;> omega)) (fun h6 => ?_) (fun h6 => ?_)
              · replace h6 : (c : Int) < 31 := h6
                omega
              · replace h6 : ¬ ((c : Int) < 31) := h6
                refine g_aload_n lk_63_54 rfl ?_
                refine g_iconst lk_63_55 ?_
                refine g_virtual (p := 2) (Qc := _) lk_63_56 rfl (Nat.le_of_ble_eq_true rfl) rfl rfl (lay.on (by decide) rfl) (Nat.le_of_ble_eq_true rfl) (Nat.le_of_ble_eq_true rfl) (Nat.zero_le _) (Nat.zero_le _) (rf5) ?_
                rintro _ K1 ⟨rfl, lay1, re1, ft1⟩
                show Wp _ 63 59 [(2, ((2 : Nat) : Int)), (2, ((16 : Nat) : Int)), (0, (dd : Int)), (9, 0), (9, 0), (9, 0)] [(0, 0)] K1 _ _ _
                refine g_ireturn lk_63_59 (fun _ => by omega) ?_
                exact ⟨lay1, re1.nd, rfl, ft1⟩
          · replace h4 : ¬ ((w : Int) = 1) := h4
            refine g_aload_n lk_63_25 rfl ?_
            refine m_getfield (u := []) (M := M) lk_63_26 rfl (lay.on (by decide) rfl) (v := (w : Int)) f13' ?_
            refine g_iconst lk_63_29 ?_
            refine g_icmp (t := 39) lk_63_30 rfl (by first | (unfold pm_inI; omega) | exact pm_and_in _ _ | exact pm_shr_in _ _ | exact pm_or_in _ _ | exact pm_xor_in _ _ | exact pm_shl_in _ _ | exact pm_cmp_in _ _ | exact pm_b8_in _ | (unfold pm_inI; split <;> omega)) (by first | (unfold pm_inI; omega) | exact pm_and_in _ _ | exact pm_shr_in _ _ | exact pm_or_in _ _ | exact pm_xor_in _ _ | exact pm_shl_in _ _ | exact pm_cmp_in _ _ | exact pm_b8_in _ | (unfold pm_inI; split <;> omega)) (fun h7 => ?_) (fun h7 => ?_)
            · replace h7 : (w : Int) = 2 := h7
              refine g_iload_n lk_63_39 rfl ?_
              refine g_bipush lk_63_40 ?_
              refine g_icmp (t := 54) lk_63_42 rfl (by first | (unfold pm_inI; omega) | exact pm_and_in _ _ | exact pm_shr_in _ _ | exact pm_or_in _ _ | exact pm_xor_in _ _ | exact pm_shl_in _ _ | exact pm_cmp_in _ _ | exact pm_b8_in _ | (unfold pm_inI; split <;> omega)) (by first | (unfold pm_inI; omega) | exact pm_and_in _ _ | exact pm_shr_in _ _ | exact pm_or_in _ _ | exact pm_xor_in _ _ | exact pm_shl_in _ _ | exact pm_cmp_in _ _ | exact pm_b8_in _ | (unfold pm_inI; split <;> omega)) (fun h8 => ?_) (fun h8 => ?_)
              · replace h8 : 9 ≤ (dd : Int) := h8
                refine g_aload_n lk_63_54 rfl ?_
                refine g_iconst lk_63_55 ?_
                refine g_virtual (p := 2) (Qc := _) lk_63_56 rfl (Nat.le_of_ble_eq_true rfl) rfl rfl (lay.on (by decide) rfl) (Nat.le_of_ble_eq_true rfl) (Nat.le_of_ble_eq_true rfl) (Nat.zero_le _) (Nat.zero_le _) (rf5) ?_
                rintro _ K1 ⟨rfl, lay1, re1, ft1⟩
                show Wp _ 63 59 [(2, ((2 : Nat) : Int)), (2, ((16 : Nat) : Int)), (0, (dd : Int)), (9, 0), (9, 0), (9, 0)] [(0, 0)] K1 _ _ _
                refine g_ireturn lk_63_59 (fun _ => by omega) ?_
                exact ⟨lay1, re1.nd, rfl, ft1⟩
              · replace h8 : ¬ (9 ≤ (dd : Int)) := h8
                refine g_aload_n lk_63_45 rfl ?_
                refine m_getfield (u := []) (M := M) lk_63_46 rfl (lay.on (by decide) rfl) (v := (c : Int)) hc ?_
                refine g_bipush lk_63_49 ?_
                refine g_icmp (t := 60) lk_63_51 rfl (by first | (unfold pm_inI; omega) | exact pm_and_in _ _ | exact pm_shr_in _ _ | exact pm_or_in _ _ | exact pm_xor_in _ _ | exact pm_shl_in _ _ | exact pm_cmp_in _ _ | exact pm_b8_in _ | (unfold pm_inI; split <;> omega)) (by first | (unfold pm_inI; omega) | exact pm_and_in _ _ | exact pm_shr_in _ _ | exact pm_or_in _ _ | exact pm_xor_in _ _ | exact pm_shl_in _ _ | exact pm_cmp_in _ _ | exact pm_b8_in _ | (unfold pm_inI; split <;> omega)) (fun h9 => ?_) (fun h9 => ?_)
                · replace h9 : (c : Int) < 31 := h9
                  omega
                · replace h9 : ¬ ((c : Int) < 31) := h9
                  refine g_aload_n lk_63_54 rfl ?_
                  refine g_iconst lk_63_55 ?_
                  refine g_virtual (p := 2) (Qc := _) lk_63_56 rfl (Nat.le_of_ble_eq_true rfl) rfl rfl (lay.on (by decide) rfl) (Nat.le_of_ble_eq_true rfl) (Nat.le_of_ble_eq_true rfl) (Nat.zero_le _) (Nat.zero_le _) (rf5) ?_
                  rintro _ K1 ⟨rfl, lay1, re1, ft1⟩
                  show Wp _ 63 59 [(2, ((2 : Nat) : Int)), (2, ((16 : Nat) : Int)), (0, (dd : Int)), (9, 0), (9, 0), (9, 0)] [(0, 0)] K1 _ _ _
                  refine g_ireturn lk_63_59 (fun _ => by omega) ?_
                  exact ⟨lay1, re1.nd, rfl, ft1⟩
            · replace h7 : ¬ ((w : Int) = 2) := h7
              omega
      · have c30 : c < 31 := by omega
        have d8 : dd < 9 := by omega
        by_cases g : twd ch t = wLeaf
        · have f13x : pm_ct M 2 13 = 239874 := by rw [f13']; exact w5.mpr g
          have rl := c_Reader_readLeaf2 (d := d) (mc := 0) (ms := 0) lay hM hT hK hc c30
          clear ih w1 w2 w3 w4 w5
          cases hp : pNum ch 0 (lxt ch n t.2.2) with
          | inl e =>
            rw [pN_lf0 a b g hp]
            rw [hp] at rl
            refine g_aload_n lk_63_0 rfl ?_
            refine m_getfield (u := []) (M := M) lk_63_1 rfl (lay.on (by decide) rfl) (v := 1) f10' ?_
            refine g_iconst lk_63_4 ?_
            refine g_icmp (t := 33) lk_63_5 rfl (by first | (unfold pm_inI; omega) | exact pm_and_in _ _ | exact pm_shr_in _ _ | exact pm_or_in _ _ | exact pm_xor_in _ _ | exact pm_shl_in _ _ | exact pm_cmp_in _ _ | exact pm_b8_in _ | (unfold pm_inI; split <;> omega)) (by first | (unfold pm_inI; omega) | exact pm_and_in _ _ | exact pm_shr_in _ _ | exact pm_or_in _ _ | exact pm_xor_in _ _ | exact pm_shl_in _ _ | exact pm_cmp_in _ _ | exact pm_b8_in _ | (unfold pm_inI; split <;> omega)) (fun h => absurd h (show ¬ (¬ (1 : Int) = (1 : Int)) by omega)) (fun _ => ?_)
            refine g_aload_n lk_63_8 rfl ?_
            refine m_getfield (u := []) (M := M) lk_63_9 rfl (lay.on (by decide) rfl) (v := 239874) f13x ?_
            refine g_ldc lk_63_12 ?_
            refine g_icmp (t := 39) lk_63_14 rfl (by first | (unfold pm_inI; omega) | exact pm_and_in _ _ | exact pm_shr_in _ _ | exact pm_or_in _ _ | exact pm_xor_in _ _ | exact pm_shl_in _ _ | exact pm_cmp_in _ _ | exact pm_b8_in _ | (unfold pm_inI; split <;> omega)) (by first | (unfold pm_inI; omega) | exact pm_and_in _ _ | exact pm_shr_in _ _ | exact pm_or_in _ _ | exact pm_xor_in _ _ | exact pm_shl_in _ _ | exact pm_cmp_in _ _ | exact pm_b8_in _ | (unfold pm_inI; split <;> omega)) (fun _ => ?_) (fun h => absurd (show (239874 : Int) = (239874 : Int) by omega) h)
            refine g_iload_n lk_63_39 rfl ?_
            refine g_bipush lk_63_40 ?_
            refine g_icmp (t := 54) lk_63_42 rfl (by first | (unfold pm_inI; omega) | exact pm_and_in _ _ | exact pm_shr_in _ _ | exact pm_or_in _ _ | exact pm_xor_in _ _ | exact pm_shl_in _ _ | exact pm_cmp_in _ _ | exact pm_b8_in _ | (unfold pm_inI; split <;> omega)) (by first | (unfold pm_inI; omega) | exact pm_and_in _ _ | exact pm_shr_in _ _ | exact pm_or_in _ _ | exact pm_xor_in _ _ | exact pm_shl_in _ _ | exact pm_cmp_in _ _ | exact pm_b8_in _ | (unfold pm_inI; split <;> omega)) (fun h1 => ?_) (fun h1 => ?_)
            · replace h1 : 9 ≤ (dd : Int) := h1
              omega
            · replace h1 : ¬ (9 ≤ (dd : Int)) := h1
              refine g_aload_n lk_63_45 rfl ?_
              refine m_getfield (u := []) (M := M) lk_63_46 rfl (lay.on (by decide) rfl) (v := (c : Int)) hc ?_
              refine g_bipush lk_63_49 ?_
              refine g_icmp (t := 60) lk_63_51 rfl (by first | (unfold pm_inI; omega) | exact pm_and_in _ _ | exact pm_shr_in _ _ | exact pm_or_in _ _ | exact pm_xor_in _ _ | exact pm_shl_in _ _ | exact pm_cmp_in _ _ | exact pm_b8_in _ | (unfold pm_inI; split <;> omega)) (by first | (unfold pm_inI; omega) | exact pm_and_in _ _ | exact pm_shr_in _ _ | exact pm_or_in _ _ | exact pm_xor_in _ _ | exact pm_shl_in _ _ | exact pm_cmp_in _ _ | exact pm_b8_in _ | (unfold pm_inI; split <;> omega)) (fun h2 => ?_) (fun h2 => ?_)
              · replace h2 : (c : Int) < 31 := h2
                refine g_aload_n lk_63_60 rfl ?_
                refine m_getfield (u := []) (M := M) lk_63_61 rfl (lay.on (by decide) rfl) (v := 239874) f13x ?_
                refine g_ldc lk_63_64 ?_
                refine g_icmp (t := 75) lk_63_66 rfl (by first | (unfold pm_inI; omega) | exact pm_and_in _ _ | exact pm_shr_in _ _ | exact pm_or_in _ _ | exact pm_xor_in _ _ | exact pm_shl_in _ _ | exact pm_cmp_in _ _ | exact pm_b8_in _ | (unfold pm_inI; split <;> omega)) (by first | (unfold pm_inI; omega) | exact pm_and_in _ _ | exact pm_shr_in _ _ | exact pm_or_in _ _ | exact pm_xor_in _ _ | exact pm_shl_in _ _ | exact pm_cmp_in _ _ | exact pm_b8_in _ | (unfold pm_inI; split <;> omega)) (fun h => absurd h (show ¬ (¬ (239874 : Int) = (239874 : Int)) by omega)) (fun _ => ?_)
                refine g_aload_n lk_63_69 rfl ?_
                refine g_aload_n lk_63_70 rfl ?_
                refine g_virtual (p := 2) (Qc := _) lk_63_71 rfl (Nat.le_of_ble_eq_true rfl) rfl rfl (lay.on (by decide) rfl) (Nat.le_of_ble_eq_true rfl) (Nat.le_of_ble_eq_true rfl) (Nat.zero_le _) (Nat.zero_le _) (rl) ?_
                rintro _ K1 ⟨lay1, nf1, rfl, ft1⟩
                show Wp _ 63 74 [(2, ((2 : Nat) : Int)), (2, ((16 : Nat) : Int)), (0, (dd : Int)), (9, 0), (9, 0), (9, 0)] [(0, 0)] K1 _ _ _
                refine g_ireturn lk_63_74 (fun _ => by omega) ?_
                exact ⟨lay1, nf1, rfl, ft1⟩
              · replace h2 : ¬ ((c : Int) < 31) := h2
                omega
          | inr v =>
            rw [pN_lf1 a b g hp]
            rw [hp] at rl
            refine g_aload_n lk_63_0 rfl ?_
            refine m_getfield (u := []) (M := M) lk_63_1 rfl (lay.on (by decide) rfl) (v := 1) f10' ?_
            refine g_iconst lk_63_4 ?_
            refine g_icmp (t := 33) lk_63_5 rfl (by first | (unfold pm_inI; omega) | exact pm_and_in _ _ | exact pm_shr_in _ _ | exact pm_or_in _ _ | exact pm_xor_in _ _ | exact pm_shl_in _ _ | exact pm_cmp_in _ _ | exact pm_b8_in _ | (unfold pm_inI; split <;> omega)) (by first | (unfold pm_inI; omega) | exact pm_and_in _ _ | exact pm_shr_in _ _ | exact pm_or_in _ _ | exact pm_xor_in _ _ | exact pm_shl_in _ _ | exact pm_cmp_in _ _ | exact pm_b8_in _ | (unfold pm_inI; split <;> omega)) (fun h => absurd h (show ¬ (¬ (1 : Int) = (1 : Int)) by omega)) (fun _ => ?_)
            refine g_aload_n lk_63_8 rfl ?_
            refine m_getfield (u := []) (M := M) lk_63_9 rfl (lay.on (by decide) rfl) (v := 239874) f13x ?_
            refine g_ldc lk_63_12 ?_
            refine g_icmp (t := 39) lk_63_14 rfl (by first | (unfold pm_inI; omega) | exact pm_and_in _ _ | exact pm_shr_in _ _ | exact pm_or_in _ _ | exact pm_xor_in _ _ | exact pm_shl_in _ _ | exact pm_cmp_in _ _ | exact pm_b8_in _ | (unfold pm_inI; split <;> omega)) (by first | (unfold pm_inI; omega) | exact pm_and_in _ _ | exact pm_shr_in _ _ | exact pm_or_in _ _ | exact pm_xor_in _ _ | exact pm_shl_in _ _ | exact pm_cmp_in _ _ | exact pm_b8_in _ | (unfold pm_inI; split <;> omega)) (fun _ => ?_) (fun h => absurd (show (239874 : Int) = (239874 : Int) by omega) h)
            refine g_iload_n lk_63_39 rfl ?_
            refine g_bipush lk_63_40 ?_
            refine g_icmp (t := 54) lk_63_42 rfl (by first | (unfold pm_inI; omega) | exact pm_and_in _ _ | exact pm_shr_in _ _ | exact pm_or_in _ _ | exact pm_xor_in _ _ | exact pm_shl_in _ _ | exact pm_cmp_in _ _ | exact pm_b8_in _ | (unfold pm_inI; split <;> omega)) (by first | (unfold pm_inI; omega) | exact pm_and_in _ _ | exact pm_shr_in _ _ | exact pm_or_in _ _ | exact pm_xor_in _ _ | exact pm_shl_in _ _ | exact pm_cmp_in _ _ | exact pm_b8_in _ | (unfold pm_inI; split <;> omega)) (fun h1 => ?_) (fun h1 => ?_)
            · replace h1 : 9 ≤ (dd : Int) := h1
              omega
            · replace h1 : ¬ (9 ≤ (dd : Int)) := h1
              refine g_aload_n lk_63_45 rfl ?_
              refine m_getfield (u := []) (M := M) lk_63_46 rfl (lay.on (by decide) rfl) (v := (c : Int)) hc ?_
              refine g_bipush lk_63_49 ?_
              refine g_icmp (t := 60) lk_63_51 rfl (by first | (unfold pm_inI; omega) | exact pm_and_in _ _ | exact pm_shr_in _ _ | exact pm_or_in _ _ | exact pm_xor_in _ _ | exact pm_shl_in _ _ | exact pm_cmp_in _ _ | exact pm_b8_in _ | (unfold pm_inI; split <;> omega)) (by first | (unfold pm_inI; omega) | exact pm_and_in _ _ | exact pm_shr_in _ _ | exact pm_or_in _ _ | exact pm_xor_in _ _ | exact pm_shl_in _ _ | exact pm_cmp_in _ _ | exact pm_b8_in _ | (unfold pm_inI; split <;> omega)) (fun h2 => ?_) (fun h2 => ?_)
              · replace h2 : (c : Int) < 31 := h2
                refine g_aload_n lk_63_60 rfl ?_
                refine m_getfield (u := []) (M := M) lk_63_61 rfl (lay.on (by decide) rfl) (v := 239874) f13x ?_
                refine g_ldc lk_63_64 ?_
                refine g_icmp (t := 75) lk_63_66 rfl (by first | (unfold pm_inI; omega) | exact pm_and_in _ _ | exact pm_shr_in _ _ | exact pm_or_in _ _ | exact pm_xor_in _ _ | exact pm_shl_in _ _ | exact pm_cmp_in _ _ | exact pm_b8_in _ | (unfold pm_inI; split <;> omega)) (by first | (unfold pm_inI; omega) | exact pm_and_in _ _ | exact pm_shr_in _ _ | exact pm_or_in _ _ | exact pm_xor_in _ _ | exact pm_shl_in _ _ | exact pm_cmp_in _ _ | exact pm_b8_in _ | (unfold pm_inI; split <;> omega)) (fun h => absurd h (show ¬ (¬ (239874 : Int) = (239874 : Int)) by omega)) (fun _ => ?_)
                refine g_aload_n lk_63_69 rfl ?_
                refine g_aload_n lk_63_70 rfl ?_
                refine g_virtual (p := 2) (Qc := _) lk_63_71 rfl (Nat.le_of_ble_eq_true rfl) rfl rfl (lay.on (by decide) rfl) (Nat.le_of_ble_eq_true rfl) (Nat.le_of_ble_eq_true rfl) (Nat.zero_le _) (Nat.zero_le _) (rl) ?_
                rintro _ K1 ⟨lay1, nf1, rfl, x1⟩
                show Wp _ 63 74 [(2, ((2 : Nat) : Int)), (2, ((16 : Nat) : Int)), (0, (dd : Int)), (9, 0), (9, 0), (9, 0)] [(0, 1)] K1 _ _ _
                refine g_ireturn lk_63_74 (fun _ => by omega) ?_
                exact ⟨lay1, nf1, rfl, x1⟩
              · replace h2 : ¬ ((c : Int) < 31) := h2
                omega
        · have u1 := (lxt_ok (ch := ch) hK.2.2.1 n5).1
          have u2 := (lxt_ok (ch := ch) u1.2.2.1 n5).1
          have ad := c_Reader_advance (d := d + 1) (mc := 0) (ms := 0) lay hM hT.2.2.2.1 hK.2.2.1
          by_cases y : twd ch t = wdA
          · have em : (if twd ch t = wdA then R else C) = R := if_pos y
            have ex : (if twd ch t = wdA then 1 else 2) = 1 := if_pos y
            have f13x : pm_ct M 2 13 = 1 := by rw [f13']; exact w1.mpr y
            cases hp : pSet ch (if twd ch t = wdA then R else C) (lxt ch n t.2.2) with
            | inl e =>
              rw [pN_nd0 a b g hp]
              rw [em] at hp
              clear ih w1 w2 w3 w4 w5
              refine g_aload_n lk_63_0 rfl ?_
              refine m_getfield (u := []) (M := M) lk_63_1 rfl (lay.on (by decide) rfl) (v := 1) f10' ?_
              refine g_iconst lk_63_4 ?_
              refine g_icmp (t := 33) lk_63_5 rfl (by first | (unfold pm_inI; omega) | exact pm_and_in _ _ | exact pm_shr_in _ _ | exact pm_or_in _ _ | exact pm_xor_in _ _ | exact pm_shl_in _ _ | exact pm_cmp_in _ _ | exact pm_b8_in _ | (unfold pm_inI; split <;> omega)) (by first | (unfold pm_inI; omega) | exact pm_and_in _ _ | exact pm_shr_in _ _ | exact pm_or_in _ _ | exact pm_xor_in _ _ | exact pm_shl_in _ _ | exact pm_cmp_in _ _ | exact pm_b8_in _ | (unfold pm_inI; split <;> omega)) (fun h => absurd h (show ¬ (¬ (1 : Int) = (1 : Int)) by omega)) (fun _ => ?_)
              refine g_aload_n lk_63_8 rfl ?_
              refine m_getfield (u := []) (M := M) lk_63_9 rfl (lay.on (by decide) rfl) (v := 1) f13x ?_
              refine g_ldc lk_63_12 ?_
              refine g_icmp (t := 39) lk_63_14 rfl (by first | (unfold pm_inI; omega) | exact pm_and_in _ _ | exact pm_shr_in _ _ | exact pm_or_in _ _ | exact pm_xor_in _ _ | exact pm_shl_in _ _ | exact pm_cmp_in _ _ | exact pm_b8_in _ | (unfold pm_inI; split <;> omega)) (by first | (unfold pm_inI; omega) | exact pm_and_in _ _ | exact pm_shr_in _ _ | exact pm_or_in _ _ | exact pm_xor_in _ _ | exact pm_shl_in _ _ | exact pm_cmp_in _ _ | exact pm_b8_in _ | (unfold pm_inI; split <;> omega)) (fun h => absurd h (show ¬ ((1 : Int) = (239874 : Int)) by omega)) (fun _ => ?_)
              refine g_aload_n lk_63_17 rfl ?_
              refine m_getfield (u := []) (M := M) lk_63_18 rfl (lay.on (by decide) rfl) (v := 1) f13x ?_
              refine g_iconst lk_63_21 ?_
              refine g_icmp (t := 39) lk_63_22 rfl (by first | (unfold pm_inI; omega) | exact pm_and_in _ _ | exact pm_shr_in _ _ | exact pm_or_in _ _ | exact pm_xor_in _ _ | exact pm_shl_in _ _ | exact pm_cmp_in _ _ | exact pm_b8_in _ | (unfold pm_inI; split <;> omega)) (by first | (unfold pm_inI; omega) | exact pm_and_in _ _ | exact pm_shr_in _ _ | exact pm_or_in _ _ | exact pm_xor_in _ _ | exact pm_shl_in _ _ | exact pm_cmp_in _ _ | exact pm_b8_in _ | (unfold pm_inI; split <;> omega)) (fun _ => ?_) (fun h => absurd (show (1 : Int) = (1 : Int) by omega) h)
              refine g_iload_n lk_63_39 rfl ?_
              refine g_bipush lk_63_40 ?_
              refine g_icmp (t := 54) lk_63_42 rfl (by first | (unfold pm_inI; omega) | exact pm_and_in _ _ | exact pm_shr_in _ _ | exact pm_or_in _ _ | exact pm_xor_in _ _ | exact pm_shl_in _ _ | exact pm_cmp_in _ _ | exact pm_b8_in _ | (unfold pm_inI; split <;> omega)) (by first | (unfold pm_inI; omega) | exact pm_and_in _ _ | exact pm_shr_in _ _ | exact pm_or_in _ _ | exact pm_xor_in _ _ | exact pm_shl_in _ _ | exact pm_cmp_in _ _ | exact pm_b8_in _ | (unfold pm_inI; split <;> omega)) (fun h1 => ?_) (fun h1 => ?_)
              · replace h1 : 9 ≤ (dd : Int) := h1
                omega
              · replace h1 : ¬ (9 ≤ (dd : Int)) := h1
                refine g_aload_n lk_63_45 rfl ?_
                refine m_getfield (u := []) (M := M) lk_63_46 rfl (lay.on (by decide) rfl) (v := (c : Int)) hc ?_
                refine g_bipush lk_63_49 ?_
                refine g_icmp (t := 60) lk_63_51 rfl (by first | (unfold pm_inI; omega) | exact pm_and_in _ _ | exact pm_shr_in _ _ | exact pm_or_in _ _ | exact pm_xor_in _ _ | exact pm_shl_in _ _ | exact pm_cmp_in _ _ | exact pm_b8_in _ | (unfold pm_inI; split <;> omega)) (by first | (unfold pm_inI; omega) | exact pm_and_in _ _ | exact pm_shr_in _ _ | exact pm_or_in _ _ | exact pm_xor_in _ _ | exact pm_shl_in _ _ | exact pm_cmp_in _ _ | exact pm_b8_in _ | (unfold pm_inI; split <;> omega)) (fun h2 => ?_) (fun h2 => ?_)
                · replace h2 : (c : Int) < 31 := h2
                  refine g_aload_n lk_63_60 rfl ?_
                  refine m_getfield (u := []) (M := M) lk_63_61 rfl (lay.on (by decide) rfl) (v := 1) f13x ?_
                  refine g_ldc lk_63_64 ?_
                  refine g_icmp (t := 75) lk_63_66 rfl (by first | (unfold pm_inI; omega) | exact pm_and_in _ _ | exact pm_shr_in _ _ | exact pm_or_in _ _ | exact pm_xor_in _ _ | exact pm_shl_in _ _ | exact pm_cmp_in _ _ | exact pm_b8_in _ | (unfold pm_inI; split <;> omega)) (by first | (unfold pm_inI; omega) | exact pm_and_in _ _ | exact pm_shr_in _ _ | exact pm_or_in _ _ | exact pm_xor_in _ _ | exact pm_shl_in _ _ | exact pm_cmp_in _ _ | exact pm_b8_in _ | (unfold pm_inI; split <;> omega)) (fun _ => ?_) (fun h => absurd (show ¬ (1 : Int) = (239874 : Int) by omega) h)
                  refine g_aload_n lk_63_75 rfl ?_
                  refine m_getfield (u := []) (M := M) lk_63_76 rfl (lay.on (by decide) rfl) (v := 1) f13x ?_
                  refine g_iconst lk_63_79 ?_
                  refine g_icmp (t := 87) lk_63_80 rfl (by first | (unfold pm_inI; omega) | exact pm_and_in _ _ | exact pm_shr_in _ _ | exact pm_or_in _ _ | exact pm_xor_in _ _ | exact pm_shl_in _ _ | exact pm_cmp_in _ _ | exact pm_b8_in _ | (unfold pm_inI; split <;> omega)) (by first | (unfold pm_inI; omega) | exact pm_and_in _ _ | exact pm_shr_in _ _ | exact pm_or_in _ _ | exact pm_xor_in _ _ | exact pm_shl_in _ _ | exact pm_cmp_in _ _ | exact pm_b8_in _ | (unfold pm_inI; split <;> omega)) (fun h => absurd h (show ¬ (¬ (1 : Int) = (1 : Int)) by omega)) (fun _ => ?_)
                  refine g_iconst lk_63_83 ?_
                  refine g_goto (t := 88) lk_63_84 rfl ?_
                  refine g_istore_n (ls' := [(2, ((2 : Nat) : Int)), (2, ((16 : Nat) : Int)), (0, (dd : Int)), (0, 1), (9, 0), (9, 0)]) lk_63_88 rfl rfl ?_
                  refine g_aload_n lk_63_89 rfl ?_
                  refine g_virtual (p := 2) (Qc := _) lk_63_90 rfl (Nat.le_of_ble_eq_true rfl) rfl rfl (lay.on (by decide) rfl) (Nat.le_of_ble_eq_true rfl) (Nat.le_of_ble_eq_true rfl) (Nat.zero_le _) (Nat.zero_le _) (ad) ?_
                  rintro _ K1 ⟨rfl, lay1, rd1, tk1⟩
                  have f4 : pm_ct K1 4 1 = (R : Int) := (by rw [rd1.1.ct (by decide)]; exact hR)
                  have hc1 : pm_ct K1 16 3 = (c : Int) := (by rw [rd1.1.ct (by decide)]; exact hc)
                  show Wp _ 63 93 [(2, ((2 : Nat) : Int)), (2, ((16 : Nat) : Int)), (0, (dd : Int)), (0, 1), (9, 0), (9, 0)] [] K1 _ _ _
                  refine g_aload_n lk_63_93 rfl ?_
                  refine g_iload_n lk_63_94 rfl ?_
                  refine g_if (t := 108) lk_63_95 rfl (by first | (unfold pm_inI; omega) | exact pm_and_in _ _ | exact pm_shr_in _ _ | exact pm_or_in _ _ | exact pm_xor_in _ _ | exact pm_shl_in _ _ | exact pm_cmp_in _ _ | exact pm_b8_in _ | (unfold pm_inI; split <;> omega)) (fun h => absurd h (show ¬ ((1 : Int) = (0 : Int)) by omega)) (fun _ => ?_)
                  refine g_aload_n lk_63_98 rfl ?_
                  refine g_getfield lk_63_99 rfl (lay1.on (by decide) rfl) (v := ((4 : Nat) : Int)) (lay1.rf rfl) ?_
                  refine m_getfield (u := []) (M := K1) lk_63_102 rfl (lay1.on (by decide) rfl) (v := (R : Int)) f4 ?_
                  refine g_goto (t := 115) lk_63_105 rfl ?_
                  refine g_virtual (p := 2) (Qc := _) lk_63_115 rfl (Nat.le_of_ble_eq_true rfl) rfl rfl (lay1.on (by decide) rfl) (Nat.le_of_ble_eq_true rfl) (Nat.le_of_ble_eq_true rfl) (Nat.zero_le _) (Nat.zero_le _) (c_Reader_readSet (d := d + 1) (mc := 0) (ms := 0) lay1 (hM.rd rd1) tk1 u1 r6) ?_
                  rintro ρ2 K2 ⟨lay2, re2, o2⟩
                  obtain ⟨rfl, ft2⟩ := set_inl hp o2
                  show Wp _ 63 118 [(2, ((2 : Nat) : Int)), (2, ((16 : Nat) : Int)), (0, (dd : Int)), (0, 1), (9, 0), (9, 0)] [(0, 0)] K2 _ _ _
                  refine g_istore (ls' := [(2, ((2 : Nat) : Int)), (2, ((16 : Nat) : Int)), (0, (dd : Int)), (0, 1), (0, 0), (9, 0)]) lk_63_118 rfl rfl ?_
                  refine g_iload lk_63_120 rfl ?_
                  refine g_if (t := 127) lk_63_122 rfl (by first | (unfold pm_inI; omega) | exact pm_and_in _ _ | exact pm_shr_in _ _ | exact pm_or_in _ _ | exact pm_xor_in _ _ | exact pm_shl_in _ _ | exact pm_cmp_in _ _ | exact pm_b8_in _ | (unfold pm_inI; split <;> omega)) (fun h => absurd h (show ¬ (¬ (0 : Int) = (0 : Int)) by omega)) (fun _ => ?_)
                  refine g_iconst lk_63_125 ?_
                  refine g_ireturn lk_63_126 (fun _ => by omega) ?_
                  exact ⟨lay2, rd1.re.nd.trans re2.nd, rfl, ft2⟩
                · replace h2 : ¬ ((c : Int) < 31) := h2
                  omega
            | inr s =>
              cases k1 : pN ch n R C f (dd + 1) (c + 1) c (lxt ch n (lxt ch n t.2.2).2.2) with
              | inl e =>
                rw [pN_nd1 a b g hp k1]
                rw [em] at hp
                clear w1 w2 w3 w4 w5
                refine g_aload_n lk_63_0 rfl ?_
                refine m_getfield (u := []) (M := M) lk_63_1 rfl (lay.on (by decide) rfl) (v := 1) f10' ?_
                refine g_iconst lk_63_4 ?_
                refine g_icmp (t := 33) lk_63_5 rfl (by first | (unfold pm_inI; omega) | exact pm_and_in _ _ | exact pm_shr_in _ _ | exact pm_or_in _ _ | exact pm_xor_in _ _ | exact pm_shl_in _ _ | exact pm_cmp_in _ _ | exact pm_b8_in _ | (unfold pm_inI; split <;> omega)) (by first | (unfold pm_inI; omega) | exact pm_and_in _ _ | exact pm_shr_in _ _ | exact pm_or_in _ _ | exact pm_xor_in _ _ | exact pm_shl_in _ _ | exact pm_cmp_in _ _ | exact pm_b8_in _ | (unfold pm_inI; split <;> omega)) (fun h => absurd h (show ¬ (¬ (1 : Int) = (1 : Int)) by omega)) (fun _ => ?_)
                refine g_aload_n lk_63_8 rfl ?_
                refine m_getfield (u := []) (M := M) lk_63_9 rfl (lay.on (by decide) rfl) (v := 1) f13x ?_
                refine g_ldc lk_63_12 ?_
                refine g_icmp (t := 39) lk_63_14 rfl (by first | (unfold pm_inI; omega) | exact pm_and_in _ _ | exact pm_shr_in _ _ | exact pm_or_in _ _ | exact pm_xor_in _ _ | exact pm_shl_in _ _ | exact pm_cmp_in _ _ | exact pm_b8_in _ | (unfold pm_inI; split <;> omega)) (by first | (unfold pm_inI; omega) | exact pm_and_in _ _ | exact pm_shr_in _ _ | exact pm_or_in _ _ | exact pm_xor_in _ _ | exact pm_shl_in _ _ | exact pm_cmp_in _ _ | exact pm_b8_in _ | (unfold pm_inI; split <;> omega)) (fun h => absurd h (show ¬ ((1 : Int) = (239874 : Int)) by omega)) (fun _ => ?_)
                refine g_aload_n lk_63_17 rfl ?_
                refine m_getfield (u := []) (M := M) lk_63_18 rfl (lay.on (by decide) rfl) (v := 1) f13x ?_
                refine g_iconst lk_63_21 ?_
                refine g_icmp (t := 39) lk_63_22 rfl (by first | (unfold pm_inI; omega) | exact pm_and_in _ _ | exact pm_shr_in _ _ | exact pm_or_in _ _ | exact pm_xor_in _ _ | exact pm_shl_in _ _ | exact pm_cmp_in _ _ | exact pm_b8_in _ | (unfold pm_inI; split <;> omega)) (by first | (unfold pm_inI; omega) | exact pm_and_in _ _ | exact pm_shr_in _ _ | exact pm_or_in _ _ | exact pm_xor_in _ _ | exact pm_shl_in _ _ | exact pm_cmp_in _ _ | exact pm_b8_in _ | (unfold pm_inI; split <;> omega)) (fun _ => ?_) (fun h => absurd (show (1 : Int) = (1 : Int) by omega) h)
                refine g_iload_n lk_63_39 rfl ?_
                refine g_bipush lk_63_40 ?_
                refine g_icmp (t := 54) lk_63_42 rfl (by first | (unfold pm_inI; omega) | exact pm_and_in _ _ | exact pm_shr_in _ _ | exact pm_or_in _ _ | exact pm_xor_in _ _ | exact pm_shl_in _ _ | exact pm_cmp_in _ _ | exact pm_b8_in _ | (unfold pm_inI; split <;> omega)) (by first | (unfold pm_inI; omega) | exact pm_and_in _ _ | exact pm_shr_in _ _ | exact pm_or_in _ _ | exact pm_xor_in _ _ | exact pm_shl_in _ _ | exact pm_cmp_in _ _ | exact pm_b8_in _ | (unfold pm_inI; split <;> omega)) (fun h1 => ?_) (fun h1 => ?_)
                · replace h1 : 9 ≤ (dd : Int) := h1
                  omega
                · replace h1 : ¬ (9 ≤ (dd : Int)) := h1
                  refine g_aload_n lk_63_45 rfl ?_
                  refine m_getfield (u := []) (M := M) lk_63_46 rfl (lay.on (by decide) rfl) (v := (c : Int)) hc ?_
                  refine g_bipush lk_63_49 ?_
                  refine g_icmp (t := 60) lk_63_51 rfl (by first | (unfold pm_inI; omega) | exact pm_and_in _ _ | exact pm_shr_in _ _ | exact pm_or_in _ _ | exact pm_xor_in _ _ | exact pm_shl_in _ _ | exact pm_cmp_in _ _ | exact pm_b8_in _ | (unfold pm_inI; split <;> omega)) (by first | (unfold pm_inI; omega) | exact pm_and_in _ _ | exact pm_shr_in _ _ | exact pm_or_in _ _ | exact pm_xor_in _ _ | exact pm_shl_in _ _ | exact pm_cmp_in _ _ | exact pm_b8_in _ | (unfold pm_inI; split <;> omega)) (fun h2 => ?_) (fun h2 => ?_)
                  · replace h2 : (c : Int) < 31 := h2
                    refine g_aload_n lk_63_60 rfl ?_
                    refine m_getfield (u := []) (M := M) lk_63_61 rfl (lay.on (by decide) rfl) (v := 1) f13x ?_
                    refine g_ldc lk_63_64 ?_
                    refine g_icmp (t := 75) lk_63_66 rfl (by first | (unfold pm_inI; omega) | exact pm_and_in _ _ | exact pm_shr_in _ _ | exact pm_or_in _ _ | exact pm_xor_in _ _ | exact pm_shl_in _ _ | exact pm_cmp_in _ _ | exact pm_b8_in _ | (unfold pm_inI; split <;> omega)) (by first | (unfold pm_inI; omega) | exact pm_and_in _ _ | exact pm_shr_in _ _ | exact pm_or_in _ _ | exact pm_xor_in _ _ | exact pm_shl_in _ _ | exact pm_cmp_in _ _ | exact pm_b8_in _ | (unfold pm_inI; split <;> omega)) (fun _ => ?_) (fun h => absurd (show ¬ (1 : Int) = (239874 : Int) by omega) h)
                    refine g_aload_n lk_63_75 rfl ?_
                    refine m_getfield (u := []) (M := M) lk_63_76 rfl (lay.on (by decide) rfl) (v := 1) f13x ?_
                    refine g_iconst lk_63_79 ?_
                    refine g_icmp (t := 87) lk_63_80 rfl (by first | (unfold pm_inI; omega) | exact pm_and_in _ _ | exact pm_shr_in _ _ | exact pm_or_in _ _ | exact pm_xor_in _ _ | exact pm_shl_in _ _ | exact pm_cmp_in _ _ | exact pm_b8_in _ | (unfold pm_inI; split <;> omega)) (by first | (unfold pm_inI; omega) | exact pm_and_in _ _ | exact pm_shr_in _ _ | exact pm_or_in _ _ | exact pm_xor_in _ _ | exact pm_shl_in _ _ | exact pm_cmp_in _ _ | exact pm_b8_in _ | (unfold pm_inI; split <;> omega)) (fun h => absurd h (show ¬ (¬ (1 : Int) = (1 : Int)) by omega)) (fun _ => ?_)
                    refine g_iconst lk_63_83 ?_
                    refine g_goto (t := 88) lk_63_84 rfl ?_
                    refine g_istore_n (ls' := [(2, ((2 : Nat) : Int)), (2, ((16 : Nat) : Int)), (0, (dd : Int)), (0, 1), (9, 0), (9, 0)]) lk_63_88 rfl rfl ?_
                    refine g_aload_n lk_63_89 rfl ?_
                    refine g_virtual (p := 2) (Qc := _) lk_63_90 rfl (Nat.le_of_ble_eq_true rfl) rfl rfl (lay.on (by decide) rfl) (Nat.le_of_ble_eq_true rfl) (Nat.le_of_ble_eq_true rfl) (Nat.zero_le _) (Nat.zero_le _) (ad) ?_
                    rintro _ K1 ⟨rfl, lay1, rd1, tk1⟩
                    have f4 : pm_ct K1 4 1 = (R : Int) := (by rw [rd1.1.ct (by decide)]; exact hR)
                    have hc1 : pm_ct K1 16 3 = (c : Int) := (by rw [rd1.1.ct (by decide)]; exact hc)
                    show Wp _ 63 93 [(2, ((2 : Nat) : Int)), (2, ((16 : Nat) : Int)), (0, (dd : Int)), (0, 1), (9, 0), (9, 0)] [] K1 _ _ _
                    refine g_aload_n lk_63_93 rfl ?_
                    refine g_iload_n lk_63_94 rfl ?_
                    refine g_if (t := 108) lk_63_95 rfl (by first | (unfold pm_inI; omega) | exact pm_and_in _ _ | exact pm_shr_in _ _ | exact pm_or_in _ _ | exact pm_xor_in _ _ | exact pm_shl_in _ _ | exact pm_cmp_in _ _ | exact pm_b8_in _ | (unfold pm_inI; split <;> omega)) (fun h => absurd h (show ¬ ((1 : Int) = (0 : Int)) by omega)) (fun _ => ?_)
                    refine g_aload_n lk_63_98 rfl ?_
                    refine g_getfield lk_63_99 rfl (lay1.on (by decide) rfl) (v := ((4 : Nat) : Int)) (lay1.rf rfl) ?_
                    refine m_getfield (u := []) (M := K1) lk_63_102 rfl (lay1.on (by decide) rfl) (v := (R : Int)) f4 ?_
                    refine g_goto (t := 115) lk_63_105 rfl ?_
                    refine g_virtual (p := 2) (Qc := _) lk_63_115 rfl (Nat.le_of_ble_eq_true rfl) rfl rfl (lay1.on (by decide) rfl) (Nat.le_of_ble_eq_true rfl) (Nat.le_of_ble_eq_true rfl) (Nat.zero_le _) (Nat.zero_le _) (c_Reader_readSet (d := d + 1) (mc := 0) (ms := 0) lay1 (hM.rd rd1) tk1 u1 r6) ?_
                    rintro ρ2 K2 ⟨lay2, re2, o2⟩
                    obtain ⟨s1, s2, rfl, eK⟩ := set_inr hp o2
                    rw [eK]
                    show Wp _ 63 118 [(2, ((2 : Nat) : Int)), (2, ((16 : Nat) : Int)), (0, (dd : Int)), (0, 1), (9, 0), (9, 0)] [(0, (s : Int))] K1 _ _ _
                    refine g_istore (ls' := [(2, ((2 : Nat) : Int)), (2, ((16 : Nat) : Int)), (0, (dd : Int)), (0, 1), (0, (s : Int)), (9, 0)]) lk_63_118 rfl rfl ?_
                    refine g_iload lk_63_120 rfl ?_
                    refine g_if (t := 127) lk_63_122 rfl (by first | (unfold pm_inI; omega) | exact pm_and_in _ _ | exact pm_shr_in _ _ | exact pm_or_in _ _ | exact pm_xor_in _ _ | exact pm_shl_in _ _ | exact pm_cmp_in _ _ | exact pm_b8_in _ | (unfold pm_inI; split <;> omega)) (fun h3 => ?_) (fun h3 => ?_)
                    · replace h3 : ¬ (s : Int) = 0 := h3
                      refine g_aload_n lk_63_127 rfl ?_
                      refine g_iload_n lk_63_128 rfl ?_
                      refine g_if (t := 136) lk_63_129 rfl (by first | (unfold pm_inI; omega) | exact pm_and_in _ _ | exact pm_shr_in _ _ | exact pm_or_in _ _ | exact pm_xor_in _ _ | exact pm_shl_in _ _ | exact pm_cmp_in _ _ | exact pm_b8_in _ | (unfold pm_inI; split <;> omega)) (fun h => absurd h (show ¬ ((1 : Int) = (0 : Int)) by omega)) (fun _ => ?_)
                      refine g_iconst lk_63_132 ?_
                      refine g_goto (t := 137) lk_63_133 rfl ?_
                      refine g_iload lk_63_137 rfl ?_
                      refine g_virtual (p := 16) (Qc := _) lk_63_139 rfl (Nat.le_of_ble_eq_true rfl) rfl rfl (lay1.on (by decide) rfl) (Nat.le_of_ble_eq_true rfl) (Nat.le_of_ble_eq_true rfl) (Nat.zero_le _) (Nat.zero_le _) (c_Nodes_addR2 (d := d + 2) (mc := 0) (ms := 0) (x := 1) (y := s) lay1 hc1 c30) ?_
                      rintro _ K3 ⟨rfl, lay3, ax⟩
                      have tc3 := (ax.nd (by omega)).tc (by omega) (hM.rd rd1)
                      have ad3 := c_Reader_advance (d := d + 1) (mc := 0) (ms := 0) lay3 tc3 (ax.tk (by omega) tk1).2.2.2.1 u1.2.2.1
                      show Wp _ 63 142 [(2, ((2 : Nat) : Int)), (2, ((16 : Nat) : Int)), (0, (dd : Int)), (0, 1), (0, (s : Int)), (9, 0)] [(0, (c : Int))] K3 _ _ _
                      refine g_istore (ls' := [(2, ((2 : Nat) : Int)), (2, ((16 : Nat) : Int)), (0, (dd : Int)), (0, 1), (0, (s : Int)), (0, (c : Int))]) lk_63_142 rfl rfl ?_
                      refine g_aload_n lk_63_144 rfl ?_
                      refine g_virtual (p := 2) (Qc := _) lk_63_145 rfl (Nat.le_of_ble_eq_true rfl) rfl rfl (lay3.on (by decide) rfl) (Nat.le_of_ble_eq_true rfl) (Nat.le_of_ble_eq_true rfl) (Nat.zero_le _) (Nat.zero_le _) (ad3) ?_
                      rintro _ K4 ⟨rfl, lay4, rd4, tk4⟩
                      have F4 : NdF 16 M K4 := (rd1.re.nd.trans (ax.nd (by omega))).trans rd4.re.nd
                      have x3 : Blw M K4 16 c := ((rd1.blw (by omega)).trans ax.blw (Nat.le_refl _)).trans (rd4.blw (c := c) (by omega)) (Nat.le_refl _)
                      have x1 : pm_ct K4 17 c = (1 : Int) := (by rw [rd4.1.ct (by decide)]; exact ax.at.1)
                      have x2 : pm_ct K4 18 c = (s : Int) := (by rw [rd4.1.ct (by decide)]; exact ax.at.2.1)
                      have sv4 : Sv M K4 := (rd1.sv.trans (ax.1.sv (by decide))).trans rd4.sv
                      have g4 := ih (d + 2) 0 0 K4 (dd + 1) (c + 1) c _ (by omega) (by omega) (by omega) lay4 (tc3.rd rd4) tk4 u2 (by rw [F4.c (by omega) (Or.inr rfl)]; exact hR) (by rw [F4.c (by omega) (Or.inr rfl)]; exact hC) (by rw [rd4.1.ct (by decide)]; exact ax.2.1) (by omega)
                      rw [k1] at g4
                      show Wp _ 63 148 [(2, ((2 : Nat) : Int)), (2, ((16 : Nat) : Int)), (0, (dd : Int)), (0, 1), (0, (s : Int)), (0, (c : Int))] [] K4 _ _ _
                      refine g_iload lk_63_148 rfl ?_
                      refine g_if (t := 164) lk_63_150 rfl (by first | (unfold pm_inI; omega) | exact pm_and_in _ _ | exact pm_shr_in _ _ | exact pm_or_in _ _ | exact pm_xor_in _ _ | exact pm_shl_in _ _ | exact pm_cmp_in _ _ | exact pm_b8_in _ | (unfold pm_inI; split <;> omega)) (fun h4 => ?_) (fun h4 => ?_)
                      · replace h4 : (c : Int) < 0 := h4
                        refine g_iconst lk_63_164 ?_
                        refine g_ireturn lk_63_165 (fun _ => by omega) ?_
                        first | exact ⟨lay5, F4.trans nf5, rfl, ft5⟩ | (exfalso; omega)
                      · replace h4 : ¬ ((c : Int) < 0) := h4
                        refine g_aload_n lk_63_153 rfl ?_
                        refine g_aload_n lk_63_154 rfl ?_
                        refine g_iload_n lk_63_155 rfl ?_
                        refine g_iconst lk_63_156 ?_
                        refine g_iadd lk_63_157 ?_
                        refine g_virtual (p := 2) (Qc := _) lk_63_158 rfl (Nat.le_of_ble_eq_true rfl) rfl rfl (lay4.on (by decide) rfl) (Nat.le_of_ble_eq_true rfl) (Nat.le_of_ble_eq_true rfl) (Nat.zero_le _) (Nat.zero_le _) (g4) ?_
                        rintro _ K5 ⟨lay5, nf5, rfl, ft5⟩
                        show Wp _ 63 161 [(2, ((2 : Nat) : Int)), (2, ((16 : Nat) : Int)), (0, (dd : Int)), (0, 1), (0, (s : Int)), (0, (c : Int))] [(0, 0)] K5 _ _ _
                        refine g_if (t := 166) lk_63_161 rfl (by first | (unfold pm_inI; omega) | exact pm_and_in _ _ | exact pm_shr_in _ _ | exact pm_or_in _ _ | exact pm_xor_in _ _ | exact pm_shl_in _ _ | exact pm_cmp_in _ _ | exact pm_b8_in _ | (unfold pm_inI; split <;> omega)) (fun h => absurd h (show ¬ (¬ (0 : Int) = (0 : Int)) by omega)) (fun _ => ?_)
                        refine g_iconst lk_63_164 ?_
                        refine g_ireturn lk_63_165 (fun _ => by omega) ?_
                        first | exact ⟨lay5, F4.trans nf5, rfl, ft5⟩ | (exfalso; omega)
                    · replace h3 : ¬ (¬ (s : Int) = 0) := h3
                      refine g_iconst lk_63_125 ?_
                      refine g_ireturn lk_63_126 (fun _ => by omega) ?_
                      first | exact ⟨lay5, F4.trans nf5, rfl, ft5⟩ | (exfalso; omega)
                  · replace h2 : ¬ ((c : Int) < 31) := h2
                    omega
              | inr y1 =>
                obtain ⟨L1, t1⟩ := y1
                obtain ⟨v1, v2, v3⟩ := pN_ok n5 f u2 k1
                have step : ∀ K4 K5 : pm_M, Lay K5 → NdF 16 M K4 → NdF 16 K4 K5 → pm_ct K4 17 c = (1 : Int) → pm_ct K4 18 c = (s : Int) → Blw M K4 16 c → TkX K5 ch t1 → pm_ct K5 16 3 = ((c + 1 + L1.length : Nat) : Int) → SgAt K5 16 (c + 1) (L1.map (fun y => y.1)) → Blw K4 K5 16 (c + 1) → Sv M K5 → Wp (d + 3) 63 166 [(2, ((2 : Nat) : Int)), (2, ((16 : Nat) : Int)), (0, (dd : Int)), (0, 1), (0, (s : Int)), (0, (c : Int))] [] K5 mc ms (fun ρ M' => Lay M' ∧ NdF 16 M M' ∧ ResX ρ M' (fun x => TkX M' ch x.2 ∧ pm_ct M' 16 3 = ((c + x.1.length : Nat) : Int) ∧ SgAt M' 16 c (x.1.map (fun y => y.1)) ∧ Blw M M' 16 c ∧ Sv M M') (pN ch n R C (f + 1) dd c q t)) := by
                  intro K4 K5 lay5 F4 F5 x1 x2 x3 tk5 ct5 sg5 bl5 sv5
                  cases k2 : pN ch n R C f (dd + 1) (c + 1 + L1.length) c t1 with
                  | inl e =>
                    rw [pN_nd2 a b g hp k1 k2]
                    refine g_aload_n lk_63_166 rfl ?_
                    refine g_getfield lk_63_167 rfl (lay5.on (by decide) rfl) (v := ((19 : Nat) : Int)) (lay5.rf rfl) ?_
                    refine g_iload lk_63_170 rfl ?_
                    refine g_aload_n lk_63_172 rfl ?_
                    refine m_getfield (u := []) (M := K5) lk_63_173 rfl (lay5.on (by decide) rfl) (v := ((c + 1 + L1.length : Nat) : Int)) ct5 ?_
                    have lay1 : Lay (Mu [(19, pm_upd (pm_ct K5 19) c ((c + 1 + L1.length : Nat) : Int))] K5) := lay5.muA (l := []) (a := 19) (f := pm_upd (pm_ct K5 19) c ((c + 1 + L1.length : Nat) : Int)) rfl rfl
                    refine m_iastore (u := []) (u' := [(19, pm_upd (pm_ct K5 19) c ((c + 1 + L1.length : Nat) : Int))]) (M := K5) lk_63_176 (lay5.ay (by decide) rfl) (by omega) (j := c) (by omega) rfl ?_
                    refine g_aload_n lk_63_177 rfl ?_
                    refine g_aload_n lk_63_178 rfl ?_
                    refine g_iload_n lk_63_179 rfl ?_
                    refine g_iconst lk_63_180 ?_
                    refine g_iadd lk_63_181 ?_
                    have fM : Fr [19] K5 (Mu [(19, pm_upd (pm_ct K5 19) c ((c + 1 + L1.length : Nat) : Int))] K5) := Fr.mu _ _ rfl
                    have F6 : NdF 16 M (Mu [(19, pm_upd (pm_ct K5 19) c ((c + 1 + L1.length : Nat) : Int))] K5) := (F4.trans F5).trans (Fr.nd3 (P := 16) fM (by omega))
                    have g5 := ih (d + 2) 0 0 (Mu [(19, pm_upd (pm_ct K5 19) c ((c + 1 + L1.length : Nat) : Int))] K5) (dd + 1) (c + 1 + L1.length) c t1 (by omega) (by omega) (by omega) lay1 (F6.tc (by omega) hM) (Fr.tk3 (P := 16) fM (by omega) tk5) v1 (by rw [F6.c (by omega) (Or.inr rfl)]; exact hR) (by rw [F6.c (by omega) (Or.inr rfl)]; exact hC) (by rw [fM.ct (by decide)]; exact ct5) (by omega)
                    rw [k2] at g5
                    refine g_virtual (p := 2) (Qc := _) lk_63_182 rfl (Nat.le_of_ble_eq_true rfl) rfl rfl (lay1.on (by decide) rfl) (Nat.le_of_ble_eq_true rfl) (Nat.le_of_ble_eq_true rfl) (Nat.zero_le _) (Nat.zero_le _) g5 ?_
                    rintro _ K7 ⟨lay7, nf7, rfl, ft7⟩
                    refine g_ireturn lk_63_185 (fun _ => by omega) ?_
                    exact ⟨lay7, F6.trans nf7, rfl, ft7⟩
                  | inr y2 =>
                    obtain ⟨L2, t2⟩ := y2
                    rw [pN_nd3 a b g hp k1 k2, ex]
                    refine g_aload_n lk_63_166 rfl ?_
                    refine g_getfield lk_63_167 rfl (lay5.on (by decide) rfl) (v := ((19 : Nat) : Int)) (lay5.rf rfl) ?_
                    refine g_iload lk_63_170 rfl ?_
                    refine g_aload_n lk_63_172 rfl ?_
                    refine m_getfield (u := []) (M := K5) lk_63_173 rfl (lay5.on (by decide) rfl) (v := ((c + 1 + L1.length : Nat) : Int)) ct5 ?_
                    have lay1 : Lay (Mu [(19, pm_upd (pm_ct K5 19) c ((c + 1 + L1.length : Nat) : Int))] K5) := lay5.muA (l := []) (a := 19) (f := pm_upd (pm_ct K5 19) c ((c + 1 + L1.length : Nat) : Int)) rfl rfl
                    refine m_iastore (u := []) (u' := [(19, pm_upd (pm_ct K5 19) c ((c + 1 + L1.length : Nat) : Int))]) (M := K5) lk_63_176 (lay5.ay (by decide) rfl) (by omega) (j := c) (by omega) rfl ?_
                    refine g_aload_n lk_63_177 rfl ?_
                    refine g_aload_n lk_63_178 rfl ?_
                    refine g_iload_n lk_63_179 rfl ?_
                    refine g_iconst lk_63_180 ?_
                    refine g_iadd lk_63_181 ?_
                    have fM : Fr [19] K5 (Mu [(19, pm_upd (pm_ct K5 19) c ((c + 1 + L1.length : Nat) : Int))] K5) := Fr.mu _ _ rfl
                    have F6 : NdF 16 M (Mu [(19, pm_upd (pm_ct K5 19) c ((c + 1 + L1.length : Nat) : Int))] K5) := (F4.trans F5).trans (Fr.nd3 (P := 16) fM (by omega))
                    have m3 : pm_ct (Mu [(19, pm_upd (pm_ct K5 19) c ((c + 1 + L1.length : Nat) : Int))] K5) 19 = pm_upd (pm_ct K5 19) c ((c + 1 + L1.length : Nat) : Int) := by rw [Mu_ct]; rfl
                    have m1 : pm_ct (Mu [(19, pm_upd (pm_ct K5 19) c ((c + 1 + L1.length : Nat) : Int))] K5) 17 = pm_ct K5 17 := fM.ct (by decide)
                    have m2 : pm_ct (Mu [(19, pm_upd (pm_ct K5 19) c ((c + 1 + L1.length : Nat) : Int))] K5) 18 = pm_ct K5 18 := fM.ct (by decide)
                    have g5 := ih (d + 2) 0 0 (Mu [(19, pm_upd (pm_ct K5 19) c ((c + 1 + L1.length : Nat) : Int))] K5) (dd + 1) (c + 1 + L1.length) c t1 (by omega) (by omega) (by omega) lay1 (F6.tc (by omega) hM) (Fr.tk3 (P := 16) fM (by omega) tk5) v1 (by rw [F6.c (by omega) (Or.inr rfl)]; exact hR) (by rw [F6.c (by omega) (Or.inr rfl)]; exact hC) (by rw [fM.ct (by decide)]; exact ct5) (by omega)
                    rw [k2] at g5
                    refine g_virtual (p := 2) (Qc := _) lk_63_182 rfl (Nat.le_of_ble_eq_true rfl) rfl rfl (lay1.on (by decide) rfl) (Nat.le_of_ble_eq_true rfl) (Nat.le_of_ble_eq_true rfl) (Nat.zero_le _) (Nat.zero_le _) g5 ?_
                    rintro _ K7 ⟨lay7, nf7, rfl, tk7, ct7, sg7, bl7, sv7⟩
                    refine g_ireturn lk_63_185 (fun _ => by omega) ?_
                    refine ⟨lay7, F6.trans nf7, rfl, tk7, ?_, ?_, ?_, (sv5.trans (fM.sv (by decide))).trans sv7⟩
                    · show pm_ct K7 16 3 = ((c + (L1 ++ L2).length.succ : Nat) : Int)
                      rw [List.length_append, show c + (L1.length + L2.length).succ = c + 1 + L1.length + L2.length by omega]
                      exact ct7
                    · rw [List.map_cons, List.map_append]
                      exact SgAt.join (P := 16) x1 x2 bl5 sg5 m1 m2 m3 (by rw [List.length_map]; exact bl7) (by rw [List.length_map]; exact sg7)
                    · exact ((x3.trans bl5 (by omega)).trans (Blw.put (P := 16) m1 m2 m3) (Nat.le_refl _)).trans bl7 (by omega)
                clear w1 w2 w3 w4 w5
                have hp' := hp
                rw [em] at hp'
                refine g_aload_n lk_63_0 rfl ?_
                refine m_getfield (u := []) (M := M) lk_63_1 rfl (lay.on (by decide) rfl) (v := 1) f10' ?_
                refine g_iconst lk_63_4 ?_
                refine g_icmp (t := 33) lk_63_5 rfl (by first | (unfold pm_inI; omega) | exact pm_and_in _ _ | exact pm_shr_in _ _ | exact pm_or_in _ _ | exact pm_xor_in _ _ | exact pm_shl_in _ _ | exact pm_cmp_in _ _ | exact pm_b8_in _ | (unfold pm_inI; split <;> omega)) (by first | (unfold pm_inI; omega) | exact pm_and_in _ _ | exact pm_shr_in _ _ | exact pm_or_in _ _ | exact pm_xor_in _ _ | exact pm_shl_in _ _ | exact pm_cmp_in _ _ | exact pm_b8_in _ | (unfold pm_inI; split <;> omega)) (fun h => absurd h (show ¬ (¬ (1 : Int) = (1 : Int)) by omega)) (fun _ => ?_)
                refine g_aload_n lk_63_8 rfl ?_
                refine m_getfield (u := []) (M := M) lk_63_9 rfl (lay.on (by decide) rfl) (v := 1) f13x ?_
                refine g_ldc lk_63_12 ?_
                refine g_icmp (t := 39) lk_63_14 rfl (by first | (unfold pm_inI; omega) | exact pm_and_in _ _ | exact pm_shr_in _ _ | exact pm_or_in _ _ | exact pm_xor_in _ _ | exact pm_shl_in _ _ | exact pm_cmp_in _ _ | exact pm_b8_in _ | (unfold pm_inI; split <;> omega)) (by first | (unfold pm_inI; omega) | exact pm_and_in _ _ | exact pm_shr_in _ _ | exact pm_or_in _ _ | exact pm_xor_in _ _ | exact pm_shl_in _ _ | exact pm_cmp_in _ _ | exact pm_b8_in _ | (unfold pm_inI; split <;> omega)) (fun h => absurd h (show ¬ ((1 : Int) = (239874 : Int)) by omega)) (fun _ => ?_)
                refine g_aload_n lk_63_17 rfl ?_
                refine m_getfield (u := []) (M := M) lk_63_18 rfl (lay.on (by decide) rfl) (v := 1) f13x ?_
                refine g_iconst lk_63_21 ?_
                refine g_icmp (t := 39) lk_63_22 rfl (by first | (unfold pm_inI; omega) | exact pm_and_in _ _ | exact pm_shr_in _ _ | exact pm_or_in _ _ | exact pm_xor_in _ _ | exact pm_shl_in _ _ | exact pm_cmp_in _ _ | exact pm_b8_in _ | (unfold pm_inI; split <;> omega)) (by first | (unfold pm_inI; omega) | exact pm_and_in _ _ | exact pm_shr_in _ _ | exact pm_or_in _ _ | exact pm_xor_in _ _ | exact pm_shl_in _ _ | exact pm_cmp_in _ _ | exact pm_b8_in _ | (unfold pm_inI; split <;> omega)) (fun _ => ?_) (fun h => absurd (show (1 : Int) = (1 : Int) by omega) h)
                refine g_iload_n lk_63_39 rfl ?_
                refine g_bipush lk_63_40 ?_
                refine g_icmp (t := 54) lk_63_42 rfl (by first | (unfold pm_inI; omega) | exact pm_and_in _ _ | exact pm_shr_in _ _ | exact pm_or_in _ _ | exact pm_xor_in _ _ | exact pm_shl_in _ _ | exact pm_cmp_in _ _ | exact pm_b8_in _ | (unfold pm_inI; split <;> omega)) (by first | (unfold pm_inI; omega) | exact pm_and_in _ _ | exact pm_shr_in _ _ | exact pm_or_in _ _ | exact pm_xor_in _ _ | exact pm_shl_in _ _ | exact pm_cmp_in _ _ | exact pm_b8_in _ | (unfold pm_inI; split <;> omega)) (fun h1 => ?_) (fun h1 => ?_)
                · replace h1 : 9 ≤ (dd : Int) := h1
                  omega
                · replace h1 : ¬ (9 ≤ (dd : Int)) := h1
                  refine g_aload_n lk_63_45 rfl ?_
                  refine m_getfield (u := []) (M := M) lk_63_46 rfl (lay.on (by decide) rfl) (v := (c : Int)) hc ?_
                  refine g_bipush lk_63_49 ?_
                  refine g_icmp (t := 60) lk_63_51 rfl (by first | (unfold pm_inI; omega) | exact pm_and_in _ _ | exact pm_shr_in _ _ | exact pm_or_in _ _ | exact pm_xor_in _ _ | exact pm_shl_in _ _ | exact pm_cmp_in _ _ | exact pm_b8_in _ | (unfold pm_inI; split <;> omega)) (by first | (unfold pm_inI; omega) | exact pm_and_in _ _ | exact pm_shr_in _ _ | exact pm_or_in _ _ | exact pm_xor_in _ _ | exact pm_shl_in _ _ | exact pm_cmp_in _ _ | exact pm_b8_in _ | (unfold pm_inI; split <;> omega)) (fun h2 => ?_) (fun h2 => ?_)
                  · replace h2 : (c : Int) < 31 := h2
                    refine g_aload_n lk_63_60 rfl ?_
                    refine m_getfield (u := []) (M := M) lk_63_61 rfl (lay.on (by decide) rfl) (v := 1) f13x ?_
                    refine g_ldc lk_63_64 ?_
                    refine g_icmp (t := 75) lk_63_66 rfl (by first | (unfold pm_inI; omega) | exact pm_and_in _ _ | exact pm_shr_in _ _ | exact pm_or_in _ _ | exact pm_xor_in _ _ | exact pm_shl_in _ _ | exact pm_cmp_in _ _ | exact pm_b8_in _ | (unfold pm_inI; split <;> omega)) (by first | (unfold pm_inI; omega) | exact pm_and_in _ _ | exact pm_shr_in _ _ | exact pm_or_in _ _ | exact pm_xor_in _ _ | exact pm_shl_in _ _ | exact pm_cmp_in _ _ | exact pm_b8_in _ | (unfold pm_inI; split <;> omega)) (fun _ => ?_) (fun h => absurd (show ¬ (1 : Int) = (239874 : Int) by omega) h)
                    refine g_aload_n lk_63_75 rfl ?_
                    refine m_getfield (u := []) (M := M) lk_63_76 rfl (lay.on (by decide) rfl) (v := 1) f13x ?_
                    refine g_iconst lk_63_79 ?_
                    refine g_icmp (t := 87) lk_63_80 rfl (by first | (unfold pm_inI; omega) | exact pm_and_in _ _ | exact pm_shr_in _ _ | exact pm_or_in _ _ | exact pm_xor_in _ _ | exact pm_shl_in _ _ | exact pm_cmp_in _ _ | exact pm_b8_in _ | (unfold pm_inI; split <;> omega)) (by first | (unfold pm_inI; omega) | exact pm_and_in _ _ | exact pm_shr_in _ _ | exact pm_or_in _ _ | exact pm_xor_in _ _ | exact pm_shl_in _ _ | exact pm_cmp_in _ _ | exact pm_b8_in _ | (unfold pm_inI; split <;> omega)) (fun h => absurd h (show ¬ (¬ (1 : Int) = (1 : Int)) by omega)) (fun _ => ?_)
                    refine g_iconst lk_63_83 ?_
                    refine g_goto (t := 88) lk_63_84 rfl ?_
                    refine g_istore_n (ls' := [(2, ((2 : Nat) : Int)), (2, ((16 : Nat) : Int)), (0, (dd : Int)), (0, 1), (9, 0), (9, 0)]) lk_63_88 rfl rfl ?_
                    refine g_aload_n lk_63_89 rfl ?_
                    refine g_virtual (p := 2) (Qc := _) lk_63_90 rfl (Nat.le_of_ble_eq_true rfl) rfl rfl (lay.on (by decide) rfl) (Nat.le_of_ble_eq_true rfl) (Nat.le_of_ble_eq_true rfl) (Nat.zero_le _) (Nat.zero_le _) (ad) ?_
                    rintro _ K1 ⟨rfl, lay1, rd1, tk1⟩
                    have f4 : pm_ct K1 4 1 = (R : Int) := (by rw [rd1.1.ct (by decide)]; exact hR)
                    have hc1 : pm_ct K1 16 3 = (c : Int) := (by rw [rd1.1.ct (by decide)]; exact hc)
                    show Wp _ 63 93 [(2, ((2 : Nat) : Int)), (2, ((16 : Nat) : Int)), (0, (dd : Int)), (0, 1), (9, 0), (9, 0)] [] K1 _ _ _
                    refine g_aload_n lk_63_93 rfl ?_
                    refine g_iload_n lk_63_94 rfl ?_
                    refine g_if (t := 108) lk_63_95 rfl (by first | (unfold pm_inI; omega) | exact pm_and_in _ _ | exact pm_shr_in _ _ | exact pm_or_in _ _ | exact pm_xor_in _ _ | exact pm_shl_in _ _ | exact pm_cmp_in _ _ | exact pm_b8_in _ | (unfold pm_inI; split <;> omega)) (fun h => absurd h (show ¬ ((1 : Int) = (0 : Int)) by omega)) (fun _ => ?_)
                    refine g_aload_n lk_63_98 rfl ?_
                    refine g_getfield lk_63_99 rfl (lay1.on (by decide) rfl) (v := ((4 : Nat) : Int)) (lay1.rf rfl) ?_
                    refine m_getfield (u := []) (M := K1) lk_63_102 rfl (lay1.on (by decide) rfl) (v := (R : Int)) f4 ?_
                    refine g_goto (t := 115) lk_63_105 rfl ?_
                    refine g_virtual (p := 2) (Qc := _) lk_63_115 rfl (Nat.le_of_ble_eq_true rfl) rfl rfl (lay1.on (by decide) rfl) (Nat.le_of_ble_eq_true rfl) (Nat.le_of_ble_eq_true rfl) (Nat.zero_le _) (Nat.zero_le _) (c_Reader_readSet (d := d + 1) (mc := 0) (ms := 0) lay1 (hM.rd rd1) tk1 u1 r6) ?_
                    rintro ρ2 K2 ⟨lay2, re2, o2⟩
                    obtain ⟨s1, s2, rfl, eK⟩ := set_inr hp' o2
                    rw [eK]
                    show Wp _ 63 118 [(2, ((2 : Nat) : Int)), (2, ((16 : Nat) : Int)), (0, (dd : Int)), (0, 1), (9, 0), (9, 0)] [(0, (s : Int))] K1 _ _ _
                    refine g_istore (ls' := [(2, ((2 : Nat) : Int)), (2, ((16 : Nat) : Int)), (0, (dd : Int)), (0, 1), (0, (s : Int)), (9, 0)]) lk_63_118 rfl rfl ?_
                    refine g_iload lk_63_120 rfl ?_
                    refine g_if (t := 127) lk_63_122 rfl (by first | (unfold pm_inI; omega) | exact pm_and_in _ _ | exact pm_shr_in _ _ | exact pm_or_in _ _ | exact pm_xor_in _ _ | exact pm_shl_in _ _ | exact pm_cmp_in _ _ | exact pm_b8_in _ | (unfold pm_inI; split <;> omega)) (fun h3 => ?_) (fun h3 => ?_)
                    · replace h3 : ¬ (s : Int) = 0 := h3
                      refine g_aload_n lk_63_127 rfl ?_
                      refine g_iload_n lk_63_128 rfl ?_
                      refine g_if (t := 136) lk_63_129 rfl (by first | (unfold pm_inI; omega) | exact pm_and_in _ _ | exact pm_shr_in _ _ | exact pm_or_in _ _ | exact pm_xor_in _ _ | exact pm_shl_in _ _ | exact pm_cmp_in _ _ | exact pm_b8_in _ | (unfold pm_inI; split <;> omega)) (fun h => absurd h (show ¬ ((1 : Int) = (0 : Int)) by omega)) (fun _ => ?_)
                      refine g_iconst lk_63_132 ?_
                      refine g_goto (t := 137) lk_63_133 rfl ?_
                      refine g_iload lk_63_137 rfl ?_
                      refine g_virtual (p := 16) (Qc := _) lk_63_139 rfl (Nat.le_of_ble_eq_true rfl) rfl rfl (lay1.on (by decide) rfl) (Nat.le_of_ble_eq_true rfl) (Nat.le_of_ble_eq_true rfl) (Nat.zero_le _) (Nat.zero_le _) (c_Nodes_addR2 (d := d + 2) (mc := 0) (ms := 0) (x := 1) (y := s) lay1 hc1 c30) ?_
                      rintro _ K3 ⟨rfl, lay3, ax⟩
                      have tc3 := (ax.nd (by omega)).tc (by omega) (hM.rd rd1)
                      have ad3 := c_Reader_advance (d := d + 1) (mc := 0) (ms := 0) lay3 tc3 (ax.tk (by omega) tk1).2.2.2.1 u1.2.2.1
                      show Wp _ 63 142 [(2, ((2 : Nat) : Int)), (2, ((16 : Nat) : Int)), (0, (dd : Int)), (0, 1), (0, (s : Int)), (9, 0)] [(0, (c : Int))] K3 _ _ _
                      refine g_istore (ls' := [(2, ((2 : Nat) : Int)), (2, ((16 : Nat) : Int)), (0, (dd : Int)), (0, 1), (0, (s : Int)), (0, (c : Int))]) lk_63_142 rfl rfl ?_
                      refine g_aload_n lk_63_144 rfl ?_
                      refine g_virtual (p := 2) (Qc := _) lk_63_145 rfl (Nat.le_of_ble_eq_true rfl) rfl rfl (lay3.on (by decide) rfl) (Nat.le_of_ble_eq_true rfl) (Nat.le_of_ble_eq_true rfl) (Nat.zero_le _) (Nat.zero_le _) (ad3) ?_
                      rintro _ K4 ⟨rfl, lay4, rd4, tk4⟩
                      have F4 : NdF 16 M K4 := (rd1.re.nd.trans (ax.nd (by omega))).trans rd4.re.nd
                      have x3 : Blw M K4 16 c := ((rd1.blw (by omega)).trans ax.blw (Nat.le_refl _)).trans (rd4.blw (c := c) (by omega)) (Nat.le_refl _)
                      have x1 : pm_ct K4 17 c = (1 : Int) := (by rw [rd4.1.ct (by decide)]; exact ax.at.1)
                      have x2 : pm_ct K4 18 c = (s : Int) := (by rw [rd4.1.ct (by decide)]; exact ax.at.2.1)
                      have sv4 : Sv M K4 := (rd1.sv.trans (ax.1.sv (by decide))).trans rd4.sv
                      have g4 := ih (d + 2) 0 0 K4 (dd + 1) (c + 1) c _ (by omega) (by omega) (by omega) lay4 (tc3.rd rd4) tk4 u2 (by rw [F4.c (by omega) (Or.inr rfl)]; exact hR) (by rw [F4.c (by omega) (Or.inr rfl)]; exact hC) (by rw [rd4.1.ct (by decide)]; exact ax.2.1) (by omega)
                      rw [k1] at g4
                      show Wp _ 63 148 [(2, ((2 : Nat) : Int)), (2, ((16 : Nat) : Int)), (0, (dd : Int)), (0, 1), (0, (s : Int)), (0, (c : Int))] [] K4 _ _ _
                      refine g_iload lk_63_148 rfl ?_
                      refine g_if (t := 164) lk_63_150 rfl (by first | (unfold pm_inI; omega) | exact pm_and_in _ _ | exact pm_shr_in _ _ | exact pm_or_in _ _ | exact pm_xor_in _ _ | exact pm_shl_in _ _ | exact pm_cmp_in _ _ | exact pm_b8_in _ | (unfold pm_inI; split <;> omega)) (fun h4 => ?_) (fun h4 => ?_)
                      · replace h4 : (c : Int) < 0 := h4
                        omega
                      · replace h4 : ¬ ((c : Int) < 0) := h4
                        refine g_aload_n lk_63_153 rfl ?_
                        refine g_aload_n lk_63_154 rfl ?_
                        refine g_iload_n lk_63_155 rfl ?_
                        refine g_iconst lk_63_156 ?_
                        refine g_iadd lk_63_157 ?_
                        refine g_virtual (p := 2) (Qc := _) lk_63_158 rfl (Nat.le_of_ble_eq_true rfl) rfl rfl (lay4.on (by decide) rfl) (Nat.le_of_ble_eq_true rfl) (Nat.le_of_ble_eq_true rfl) (Nat.zero_le _) (Nat.zero_le _) (g4) ?_
                        rintro _ K5 ⟨lay5, nf5, rfl, tk5, ct5, sg5, bl5, sv5⟩
                        show Wp _ 63 161 [(2, ((2 : Nat) : Int)), (2, ((16 : Nat) : Int)), (0, (dd : Int)), (0, 1), (0, (s : Int)), (0, (c : Int))] [(0, 1)] K5 _ _ _
                        refine g_if (t := 166) lk_63_161 rfl (by first | (unfold pm_inI; omega) | exact pm_and_in _ _ | exact pm_shr_in _ _ | exact pm_or_in _ _ | exact pm_xor_in _ _ | exact pm_shl_in _ _ | exact pm_cmp_in _ _ | exact pm_b8_in _ | (unfold pm_inI; split <;> omega)) (fun _ => ?_) (fun h => absurd (show ¬ (1 : Int) = (0 : Int) by omega) h)
                        exact step K4 K5 lay5 F4 nf5 x1 x2 x3 tk5 ct5 sg5 bl5 (sv4.trans sv5)
                    · replace h3 : ¬ (¬ (s : Int) = 0) := h3
                      refine g_iconst lk_63_125 ?_
                      refine g_ireturn lk_63_126 (fun _ => by omega) ?_
                      omega
                  · replace h2 : ¬ ((c : Int) < 31) := h2
                    omega
          · have y2 : twd ch t = wdB := by
              rcases a.2 with e | e | e
              · exact absurd e g
              · exact absurd e y
              · exact e
            have em : (if twd ch t = wdA then R else C) = C := if_neg y
            have ex : (if twd ch t = wdA then 1 else 2) = 2 := if_neg y
            have f13x : pm_ct M 2 13 = 2 := by rw [f13']; exact w2.mpr y2
            cases hp : pSet ch (if twd ch t = wdA then R else C) (lxt ch n t.2.2) with
            | inl e =>
              rw [pN_nd0 a b g hp]
              rw [em] at hp
              clear ih w1 w2 w3 w4 w5
              refine g_aload_n lk_63_0 rfl ?_
              refine m_getfield (u := []) (M := M) lk_63_1 rfl (lay.on (by decide) rfl) (v := 1) f10' ?_
              refine g_iconst lk_63_4 ?_
              refine g_icmp (t := 33) lk_63_5 rfl (by first | (unfold pm_inI; omega) | exact pm_and_in _ _ | exact pm_shr_in _ _ | exact pm_or_in _ _ | exact pm_xor_in _ _ | exact pm_shl_in _ _ | exact pm_cmp_in _ _ | exact pm_b8_in _ | (unfold pm_inI; split <;> omega)) (by first | (unfold pm_inI; omega) | exact pm_and_in _ _ | exact pm_shr_in _ _ | exact pm_or_in _ _ | exact pm_xor_in _ _ | exact pm_shl_in _ _ | exact pm_cmp_in _ _ | exact pm_b8_in _ | (unfold pm_inI; split <;> omega)) (fun h => absurd h (show ¬ (¬ (1 : Int) = (1 : Int)) by omega)) (fun _ => ?_)
              refine g_aload_n lk_63_8 rfl ?_
              refine m_getfield (u := []) (M := M) lk_63_9 rfl (lay.on (by decide) rfl) (v := 2) f13x ?_
              refine g_ldc lk_63_12 ?_
              refine g_icmp (t := 39) lk_63_14 rfl (by first | (unfold pm_inI; omega) | exact pm_and_in _ _ | exact pm_shr_in _ _ | exact pm_or_in _ _ | exact pm_xor_in _ _ | exact pm_shl_in _ _ | exact pm_cmp_in _ _ | exact pm_b8_in _ | (unfold pm_inI; split <;> omega)) (by first | (unfold pm_inI; omega) | exact pm_and_in _ _ | exact pm_shr_in _ _ | exact pm_or_in _ _ | exact pm_xor_in _ _ | exact pm_shl_in _ _ | exact pm_cmp_in _ _ | exact pm_b8_in _ | (unfold pm_inI; split <;> omega)) (fun h => absurd h (show ¬ ((2 : Int) = (239874 : Int)) by omega)) (fun _ => ?_)
              refine g_aload_n lk_63_17 rfl ?_
              refine m_getfield (u := []) (M := M) lk_63_18 rfl (lay.on (by decide) rfl) (v := 2) f13x ?_
              refine g_iconst lk_63_21 ?_
              refine g_icmp (t := 39) lk_63_22 rfl (by first | (unfold pm_inI; omega) | exact pm_and_in _ _ | exact pm_shr_in _ _ | exact pm_or_in _ _ | exact pm_xor_in _ _ | exact pm_shl_in _ _ | exact pm_cmp_in _ _ | exact pm_b8_in _ | (unfold pm_inI; split <;> omega)) (by first | (unfold pm_inI; omega) | exact pm_and_in _ _ | exact pm_shr_in _ _ | exact pm_or_in _ _ | exact pm_xor_in _ _ | exact pm_shl_in _ _ | exact pm_cmp_in _ _ | exact pm_b8_in _ | (unfold pm_inI; split <;> omega)) (fun h => absurd h (show ¬ ((2 : Int) = (1 : Int)) by omega)) (fun _ => ?_)
              refine g_aload_n lk_63_25 rfl ?_
              refine m_getfield (u := []) (M := M) lk_63_26 rfl (lay.on (by decide) rfl) (v := 2) f13x ?_
              refine g_iconst lk_63_29 ?_
              refine g_icmp (t := 39) lk_63_30 rfl (by first | (unfold pm_inI; omega) | exact pm_and_in _ _ | exact pm_shr_in _ _ | exact pm_or_in _ _ | exact pm_xor_in _ _ | exact pm_shl_in _ _ | exact pm_cmp_in _ _ | exact pm_b8_in _ | (unfold pm_inI; split <;> omega)) (by first | (unfold pm_inI; omega) | exact pm_and_in _ _ | exact pm_shr_in _ _ | exact pm_or_in _ _ | exact pm_xor_in _ _ | exact pm_shl_in _ _ | exact pm_cmp_in _ _ | exact pm_b8_in _ | (unfold pm_inI; split <;> omega)) (fun _ => ?_) (fun h => absurd (show (2 : Int) = (2 : Int) by omega) h)
              refine g_iload_n lk_63_39 rfl ?_
              refine g_bipush lk_63_40 ?_
              refine g_icmp (t := 54) lk_63_42 rfl (by first | (unfold pm_inI; omega) | exact pm_and_in _ _ | exact pm_shr_in _ _ | exact pm_or_in _ _ | exact pm_xor_in _ _ | exact pm_shl_in _ _ | exact pm_cmp_in _ _ | exact pm_b8_in _ | (unfold pm_inI; split <;> omega)) (by first | (unfold pm_inI; omega) | exact pm_and_in _ _ | exact pm_shr_in _ _ | exact pm_or_in _ _ | exact pm_xor_in _ _ | exact pm_shl_in _ _ | exact pm_cmp_in _ _ | exact pm_b8_in _ | (unfold pm_inI; split <;> omega)) (fun h1 => ?_) (fun h1 => ?_)
              · replace h1 : 9 ≤ (dd : Int) := h1
                omega
              · replace h1 : ¬ (9 ≤ (dd : Int)) := h1
                refine g_aload_n lk_63_45 rfl ?_
                refine m_getfield (u := []) (M := M) lk_63_46 rfl (lay.on (by decide) rfl) (v := (c : Int)) hc ?_
                refine g_bipush lk_63_49 ?_
                refine g_icmp (t := 60) lk_63_51 rfl (by first | (unfold pm_inI; omega) | exact pm_and_in _ _ | exact pm_shr_in _ _ | exact pm_or_in _ _ | exact pm_xor_in _ _ | exact pm_shl_in _ _ | exact pm_cmp_in _ _ | exact pm_b8_in _ | (unfold pm_inI; split <;> omega)) (by first | (unfold pm_inI; omega) | exact pm_and_in _ _ | exact pm_shr_in _ _ | exact pm_or_in _ _ | exact pm_xor_in _ _ | exact pm_shl_in _ _ | exact pm_cmp_in _ _ | exact pm_b8_in _ | (unfold pm_inI; split <;> omega)) (fun h2 => ?_) (fun h2 => ?_)
                · replace h2 : (c : Int) < 31 := h2
                  refine g_aload_n lk_63_60 rfl ?_
                  refine m_getfield (u := []) (M := M) lk_63_61 rfl (lay.on (by decide) rfl) (v := 2) f13x ?_
                  refine g_ldc lk_63_64 ?_
                  refine g_icmp (t := 75) lk_63_66 rfl (by first | (unfold pm_inI; omega) | exact pm_and_in _ _ | exact pm_shr_in _ _ | exact pm_or_in _ _ | exact pm_xor_in _ _ | exact pm_shl_in _ _ | exact pm_cmp_in _ _ | exact pm_b8_in _ | (unfold pm_inI; split <;> omega)) (by first | (unfold pm_inI; omega) | exact pm_and_in _ _ | exact pm_shr_in _ _ | exact pm_or_in _ _ | exact pm_xor_in _ _ | exact pm_shl_in _ _ | exact pm_cmp_in _ _ | exact pm_b8_in _ | (unfold pm_inI; split <;> omega)) (fun _ => ?_) (fun h => absurd (show ¬ (2 : Int) = (239874 : Int) by omega) h)
                  refine g_aload_n lk_63_75 rfl ?_
                  refine m_getfield (u := []) (M := M) lk_63_76 rfl (lay.on (by decide) rfl) (v := 2) f13x ?_
                  refine g_iconst lk_63_79 ?_
                  refine g_icmp (t := 87) lk_63_80 rfl (by first | (unfold pm_inI; omega) | exact pm_and_in _ _ | exact pm_shr_in _ _ | exact pm_or_in _ _ | exact pm_xor_in _ _ | exact pm_shl_in _ _ | exact pm_cmp_in _ _ | exact pm_b8_in _ | (unfold pm_inI; split <;> omega)) (by first | (unfold pm_inI; omega) | exact pm_and_in _ _ | exact pm_shr_in _ _ | exact pm_or_in _ _ | exact pm_xor_in _ _ | exact pm_shl_in _ _ | exact pm_cmp_in _ _ | exact pm_b8_in _ | (unfold pm_inI; split <;> omega)) (fun _ => ?_) (fun h => absurd (show ¬ (2 : Int) = (1 : Int) by omega) h)
                  refine g_iconst lk_63_87 ?_
                  refine g_istore_n (ls' := [(2, ((2 : Nat) : Int)), (2, ((16 : Nat) : Int)), (0, (dd : Int)), (0, 0), (9, 0), (9, 0)]) lk_63_88 rfl rfl ?_
                  refine g_aload_n lk_63_89 rfl ?_
                  refine g_virtual (p := 2) (Qc := _) lk_63_90 rfl (Nat.le_of_ble_eq_true rfl) rfl rfl (lay.on (by decide) rfl) (Nat.le_of_ble_eq_true rfl) (Nat.le_of_ble_eq_true rfl) (Nat.zero_le _) (Nat.zero_le _) (ad) ?_
                  rintro _ K1 ⟨rfl, lay1, rd1, tk1⟩
                  have f4 : pm_ct K1 4 2 = (C : Int) := (by rw [rd1.1.ct (by decide)]; exact hC)
                  have hc1 : pm_ct K1 16 3 = (c : Int) := (by rw [rd1.1.ct (by decide)]; exact hc)
                  show Wp _ 63 93 [(2, ((2 : Nat) : Int)), (2, ((16 : Nat) : Int)), (0, (dd : Int)), (0, 0), (9, 0), (9, 0)] [] K1 _ _ _
                  refine g_aload_n lk_63_93 rfl ?_
                  refine g_iload_n lk_63_94 rfl ?_
                  refine g_if (t := 108) lk_63_95 rfl (by first | (unfold pm_inI; omega) | exact pm_and_in _ _ | exact pm_shr_in _ _ | exact pm_or_in _ _ | exact pm_xor_in _ _ | exact pm_shl_in _ _ | exact pm_cmp_in _ _ | exact pm_b8_in _ | (unfold pm_inI; split <;> omega)) (fun _ => ?_) (fun h => absurd (show (0 : Int) = (0 : Int) by omega) h)
                  refine g_aload_n lk_63_108 rfl ?_
                  refine g_getfield lk_63_109 rfl (lay1.on (by decide) rfl) (v := ((4 : Nat) : Int)) (lay1.rf rfl) ?_
                  refine m_getfield (u := []) (M := K1) lk_63_112 rfl (lay1.on (by decide) rfl) (v := (C : Int)) f4 ?_
                  refine g_virtual (p := 2) (Qc := _) lk_63_115 rfl (Nat.le_of_ble_eq_true rfl) rfl rfl (lay1.on (by decide) rfl) (Nat.le_of_ble_eq_true rfl) (Nat.le_of_ble_eq_true rfl) (Nat.zero_le _) (Nat.zero_le _) (c_Reader_readSet (d := d + 1) (mc := 0) (ms := 0) lay1 (hM.rd rd1) tk1 u1 c6) ?_
                  rintro ρ2 K2 ⟨lay2, re2, o2⟩
                  obtain ⟨rfl, ft2⟩ := set_inl hp o2
                  show Wp _ 63 118 [(2, ((2 : Nat) : Int)), (2, ((16 : Nat) : Int)), (0, (dd : Int)), (0, 0), (9, 0), (9, 0)] [(0, 0)] K2 _ _ _
                  refine g_istore (ls' := [(2, ((2 : Nat) : Int)), (2, ((16 : Nat) : Int)), (0, (dd : Int)), (0, 0), (0, 0), (9, 0)]) lk_63_118 rfl rfl ?_
                  refine g_iload lk_63_120 rfl ?_
                  refine g_if (t := 127) lk_63_122 rfl (by first | (unfold pm_inI; omega) | exact pm_and_in _ _ | exact pm_shr_in _ _ | exact pm_or_in _ _ | exact pm_xor_in _ _ | exact pm_shl_in _ _ | exact pm_cmp_in _ _ | exact pm_b8_in _ | (unfold pm_inI; split <;> omega)) (fun h => absurd h (show ¬ (¬ (0 : Int) = (0 : Int)) by omega)) (fun _ => ?_)
                  refine g_iconst lk_63_125 ?_
                  refine g_ireturn lk_63_126 (fun _ => by omega) ?_
                  exact ⟨lay2, rd1.re.nd.trans re2.nd, rfl, ft2⟩
                · replace h2 : ¬ ((c : Int) < 31) := h2
                  omega
            | inr s =>
              cases k1 : pN ch n R C f (dd + 1) (c + 1) c (lxt ch n (lxt ch n t.2.2).2.2) with
              | inl e =>
                rw [pN_nd1 a b g hp k1]
                rw [em] at hp
                clear w1 w2 w3 w4 w5
                refine g_aload_n lk_63_0 rfl ?_
                refine m_getfield (u := []) (M := M) lk_63_1 rfl (lay.on (by decide) rfl) (v := 1) f10' ?_
                refine g_iconst lk_63_4 ?_
                refine g_icmp (t := 33) lk_63_5 rfl (by first | (unfold pm_inI; omega) | exact pm_and_in _ _ | exact pm_shr_in _ _ | exact pm_or_in _ _ | exact pm_xor_in _ _ | exact pm_shl_in _ _ | exact pm_cmp_in _ _ | exact pm_b8_in _ | (unfold pm_inI; split <;> omega)) (by first | (unfold pm_inI; omega) | exact pm_and_in _ _ | exact pm_shr_in _ _ | exact pm_or_in _ _ | exact pm_xor_in _ _ | exact pm_shl_in _ _ | exact pm_cmp_in _ _ | exact pm_b8_in _ | (unfold pm_inI; split <;> omega)) (fun h => absurd h (show ¬ (¬ (1 : Int) = (1 : Int)) by omega)) (fun _ => ?_)
                refine g_aload_n lk_63_8 rfl ?_
                refine m_getfield (u := []) (M := M) lk_63_9 rfl (lay.on (by decide) rfl) (v := 2) f13x ?_
                refine g_ldc lk_63_12 ?_
                refine g_icmp (t := 39) lk_63_14 rfl (by first | (unfold pm_inI; omega) | exact pm_and_in _ _ | exact pm_shr_in _ _ | exact pm_or_in _ _ | exact pm_xor_in _ _ | exact pm_shl_in _ _ | exact pm_cmp_in _ _ | exact pm_b8_in _ | (unfold pm_inI; split <;> omega)) (by first | (unfold pm_inI; omega) | exact pm_and_in _ _ | exact pm_shr_in _ _ | exact pm_or_in _ _ | exact pm_xor_in _ _ | exact pm_shl_in _ _ | exact pm_cmp_in _ _ | exact pm_b8_in _ | (unfold pm_inI; split <;> omega)) (fun h => absurd h (show ¬ ((2 : Int) = (239874 : Int)) by omega)) (fun _ => ?_)
                refine g_aload_n lk_63_17 rfl ?_
                refine m_getfield (u := []) (M := M) lk_63_18 rfl (lay.on (by decide) rfl) (v := 2) f13x ?_
                refine g_iconst lk_63_21 ?_
                refine g_icmp (t := 39) lk_63_22 rfl (by first | (unfold pm_inI; omega) | exact pm_and_in _ _ | exact pm_shr_in _ _ | exact pm_or_in _ _ | exact pm_xor_in _ _ | exact pm_shl_in _ _ | exact pm_cmp_in _ _ | exact pm_b8_in _ | (unfold pm_inI; split <;> omega)) (by first | (unfold pm_inI; omega) | exact pm_and_in _ _ | exact pm_shr_in _ _ | exact pm_or_in _ _ | exact pm_xor_in _ _ | exact pm_shl_in _ _ | exact pm_cmp_in _ _ | exact pm_b8_in _ | (unfold pm_inI; split <;> omega)) (fun h => absurd h (show ¬ ((2 : Int) = (1 : Int)) by omega)) (fun _ => ?_)
                refine g_aload_n lk_63_25 rfl ?_
                refine m_getfield (u := []) (M := M) lk_63_26 rfl (lay.on (by decide) rfl) (v := 2) f13x ?_
                refine g_iconst lk_63_29 ?_
                refine g_icmp (t := 39) lk_63_30 rfl (by first | (unfold pm_inI; omega) | exact pm_and_in _ _ | exact pm_shr_in _ _ | exact pm_or_in _ _ | exact pm_xor_in _ _ | exact pm_shl_in _ _ | exact pm_cmp_in _ _ | exact pm_b8_in _ | (unfold pm_inI; split <;> omega)) (by first | (unfold pm_inI; omega) | exact pm_and_in _ _ | exact pm_shr_in _ _ | exact pm_or_in _ _ | exact pm_xor_in _ _ | exact pm_shl_in _ _ | exact pm_cmp_in _ _ | exact pm_b8_in _ | (unfold pm_inI; split <;> omega)) (fun _ => ?_) (fun h => absurd (show (2 : Int) = (2 : Int) by omega) h)
                refine g_iload_n lk_63_39 rfl ?_
                refine g_bipush lk_63_40 ?_
                refine g_icmp (t := 54) lk_63_42 rfl (by first | (unfold pm_inI; omega) | exact pm_and_in _ _ | exact pm_shr_in _ _ | exact pm_or_in _ _ | exact pm_xor_in _ _ | exact pm_shl_in _ _ | exact pm_cmp_in _ _ | exact pm_b8_in _ | (unfold pm_inI; split <;> omega)) (by first | (unfold pm_inI; omega) | exact pm_and_in _ _ | exact pm_shr_in _ _ | exact pm_or_in _ _ | exact pm_xor_in _ _ | exact pm_shl_in _ _ | exact pm_cmp_in _ _ | exact pm_b8_in _ | (unfold pm_inI; split <;> omega)) (fun h1 => ?_) (fun h1 => ?_)
                · replace h1 : 9 ≤ (dd : Int) := h1
                  omega
                · replace h1 : ¬ (9 ≤ (dd : Int)) := h1
                  refine g_aload_n lk_63_45 rfl ?_
                  refine m_getfield (u := []) (M := M) lk_63_46 rfl (lay.on (by decide) rfl) (v := (c : Int)) hc ?_
                  refine g_bipush lk_63_49 ?_
                  refine g_icmp (t := 60) lk_63_51 rfl (by first | (unfold pm_inI; omega) | exact pm_and_in _ _ | exact pm_shr_in _ _ | exact pm_or_in _ _ | exact pm_xor_in _ _ | exact pm_shl_in _ _ | exact pm_cmp_in _ _ | exact pm_b8_in _ | (unfold pm_inI; split <;> omega)) (by first | (unfold pm_inI; omega) | exact pm_and_in _ _ | exact pm_shr_in _ _ | exact pm_or_in _ _ | exact pm_xor_in _ _ | exact pm_shl_in _ _ | exact pm_cmp_in _ _ | exact pm_b8_in _ | (unfold pm_inI; split <;> omega)) (fun h2 => ?_) (fun h2 => ?_)
                  · replace h2 : (c : Int) < 31 := h2
                    refine g_aload_n lk_63_60 rfl ?_
                    refine m_getfield (u := []) (M := M) lk_63_61 rfl (lay.on (by decide) rfl) (v := 2) f13x ?_
                    refine g_ldc lk_63_64 ?_
                    refine g_icmp (t := 75) lk_63_66 rfl (by first | (unfold pm_inI; omega) | exact pm_and_in _ _ | exact pm_shr_in _ _ | exact pm_or_in _ _ | exact pm_xor_in _ _ | exact pm_shl_in _ _ | exact pm_cmp_in _ _ | exact pm_b8_in _ | (unfold pm_inI; split <;> omega)) (by first | (unfold pm_inI; omega) | exact pm_and_in _ _ | exact pm_shr_in _ _ | exact pm_or_in _ _ | exact pm_xor_in _ _ | exact pm_shl_in _ _ | exact pm_cmp_in _ _ | exact pm_b8_in _ | (unfold pm_inI; split <;> omega)) (fun _ => ?_) (fun h => absurd (show ¬ (2 : Int) = (239874 : Int) by omega) h)
                    refine g_aload_n lk_63_75 rfl ?_
                    refine m_getfield (u := []) (M := M) lk_63_76 rfl (lay.on (by decide) rfl) (v := 2) f13x ?_
                    refine g_iconst lk_63_79 ?_
                    refine g_icmp (t := 87) lk_63_80 rfl (by first | (unfold pm_inI; omega) | exact pm_and_in _ _ | exact pm_shr_in _ _ | exact pm_or_in _ _ | exact pm_xor_in _ _ | exact pm_shl_in _ _ | exact pm_cmp_in _ _ | exact pm_b8_in _ | (unfold pm_inI; split <;> omega)) (by first | (unfold pm_inI; omega) | exact pm_and_in _ _ | exact pm_shr_in _ _ | exact pm_or_in _ _ | exact pm_xor_in _ _ | exact pm_shl_in _ _ | exact pm_cmp_in _ _ | exact pm_b8_in _ | (unfold pm_inI; split <;> omega)) (fun _ => ?_) (fun h => absurd (show ¬ (2 : Int) = (1 : Int) by omega) h)
                    refine g_iconst lk_63_87 ?_
                    refine g_istore_n (ls' := [(2, ((2 : Nat) : Int)), (2, ((16 : Nat) : Int)), (0, (dd : Int)), (0, 0), (9, 0), (9, 0)]) lk_63_88 rfl rfl ?_
                    refine g_aload_n lk_63_89 rfl ?_
                    refine g_virtual (p := 2) (Qc := _) lk_63_90 rfl (Nat.le_of_ble_eq_true rfl) rfl rfl (lay.on (by decide) rfl) (Nat.le_of_ble_eq_true rfl) (Nat.le_of_ble_eq_true rfl) (Nat.zero_le _) (Nat.zero_le _) (ad) ?_
                    rintro _ K1 ⟨rfl, lay1, rd1, tk1⟩
                    have f4 : pm_ct K1 4 2 = (C : Int) := (by rw [rd1.1.ct (by decide)]; exact hC)
                    have hc1 : pm_ct K1 16 3 = (c : Int) := (by rw [rd1.1.ct (by decide)]; exact hc)
                    show Wp _ 63 93 [(2, ((2 : Nat) : Int)), (2, ((16 : Nat) : Int)), (0, (dd : Int)), (0, 0), (9, 0), (9, 0)] [] K1 _ _ _
                    refine g_aload_n lk_63_93 rfl ?_
                    refine g_iload_n lk_63_94 rfl ?_
                    refine g_if (t := 108) lk_63_95 rfl (by first | (unfold pm_inI; omega) | exact pm_and_in _ _ | exact pm_shr_in _ _ | exact pm_or_in _ _ | exact pm_xor_in _ _ | exact pm_shl_in _ _ | exact pm_cmp_in _ _ | exact pm_b8_in _ | (unfold pm_inI; split <;> omega)) (fun _ => ?_) (fun h => absurd (show (0 : Int) = (0 : Int) by omega) h)
                    refine g_aload_n lk_63_108 rfl ?_
                    refine g_getfield lk_63_109 rfl (lay1.on (by decide) rfl) (v := ((4 : Nat) : Int)) (lay1.rf rfl) ?_
                    refine m_getfield (u := []) (M := K1) lk_63_112 rfl (lay1.on (by decide) rfl) (v := (C : Int)) f4 ?_
                    refine g_virtual (p := 2) (Qc := _) lk_63_115 rfl (Nat.le_of_ble_eq_true rfl) rfl rfl (lay1.on (by decide) rfl) (Nat.le_of_ble_eq_true rfl) (Nat.le_of_ble_eq_true rfl) (Nat.zero_le _) (Nat.zero_le _) (c_Reader_readSet (d := d + 1) (mc := 0) (ms := 0) lay1 (hM.rd rd1) tk1 u1 c6) ?_
                    rintro ρ2 K2 ⟨lay2, re2, o2⟩
                    obtain ⟨s1, s2, rfl, eK⟩ := set_inr hp o2
                    rw [eK]
                    show Wp _ 63 118 [(2, ((2 : Nat) : Int)), (2, ((16 : Nat) : Int)), (0, (dd : Int)), (0, 0), (9, 0), (9, 0)] [(0, (s : Int))] K1 _ _ _
                    refine g_istore (ls' := [(2, ((2 : Nat) : Int)), (2, ((16 : Nat) : Int)), (0, (dd : Int)), (0, 0), (0, (s : Int)), (9, 0)]) lk_63_118 rfl rfl ?_
                    refine g_iload lk_63_120 rfl ?_
                    refine g_if (t := 127) lk_63_122 rfl (by first | (unfold pm_inI; omega) | exact pm_and_in _ _ | exact pm_shr_in _ _ | exact pm_or_in _ _ | exact pm_xor_in _ _ | exact pm_shl_in _ _ | exact pm_cmp_in _ _ | exact pm_b8_in _ | (unfold pm_inI; split <;> omega)) (fun h3 => ?_) (fun h3 => ?_)
                    · replace h3 : ¬ (s : Int) = 0 := h3
                      refine g_aload_n lk_63_127 rfl ?_
                      refine g_iload_n lk_63_128 rfl ?_
                      refine g_if (t := 136) lk_63_129 rfl (by first | (unfold pm_inI; omega) | exact pm_and_in _ _ | exact pm_shr_in _ _ | exact pm_or_in _ _ | exact pm_xor_in _ _ | exact pm_shl_in _ _ | exact pm_cmp_in _ _ | exact pm_b8_in _ | (unfold pm_inI; split <;> omega)) (fun _ => ?_) (fun h => absurd (show (0 : Int) = (0 : Int) by omega) h)
                      refine g_iconst lk_63_136 ?_
                      refine g_iload lk_63_137 rfl ?_
                      refine g_virtual (p := 16) (Qc := _) lk_63_139 rfl (Nat.le_of_ble_eq_true rfl) rfl rfl (lay1.on (by decide) rfl) (Nat.le_of_ble_eq_true rfl) (Nat.le_of_ble_eq_true rfl) (Nat.zero_le _) (Nat.zero_le _) (c_Nodes_addR2 (d := d + 2) (mc := 0) (ms := 0) (x := 2) (y := s) lay1 hc1 c30) ?_
                      rintro _ K3 ⟨rfl, lay3, ax⟩
                      have tc3 := (ax.nd (by omega)).tc (by omega) (hM.rd rd1)
                      have ad3 := c_Reader_advance (d := d + 1) (mc := 0) (ms := 0) lay3 tc3 (ax.tk (by omega) tk1).2.2.2.1 u1.2.2.1
                      show Wp _ 63 142 [(2, ((2 : Nat) : Int)), (2, ((16 : Nat) : Int)), (0, (dd : Int)), (0, 0), (0, (s : Int)), (9, 0)] [(0, (c : Int))] K3 _ _ _
                      refine g_istore (ls' := [(2, ((2 : Nat) : Int)), (2, ((16 : Nat) : Int)), (0, (dd : Int)), (0, 0), (0, (s : Int)), (0, (c : Int))]) lk_63_142 rfl rfl ?_
                      refine g_aload_n lk_63_144 rfl ?_
                      refine g_virtual (p := 2) (Qc := _) lk_63_145 rfl (Nat.le_of_ble_eq_true rfl) rfl rfl (lay3.on (by decide) rfl) (Nat.le_of_ble_eq_true rfl) (Nat.le_of_ble_eq_true rfl) (Nat.zero_le _) (Nat.zero_le _) (ad3) ?_
                      rintro _ K4 ⟨rfl, lay4, rd4, tk4⟩
                      have F4 : NdF 16 M K4 := (rd1.re.nd.trans (ax.nd (by omega))).trans rd4.re.nd
                      have x3 : Blw M K4 16 c := ((rd1.blw (by omega)).trans ax.blw (Nat.le_refl _)).trans (rd4.blw (c := c) (by omega)) (Nat.le_refl _)
                      have x1 : pm_ct K4 17 c = (2 : Int) := (by rw [rd4.1.ct (by decide)]; exact ax.at.1)
                      have x2 : pm_ct K4 18 c = (s : Int) := (by rw [rd4.1.ct (by decide)]; exact ax.at.2.1)
                      have sv4 : Sv M K4 := (rd1.sv.trans (ax.1.sv (by decide))).trans rd4.sv
                      have g4 := ih (d + 2) 0 0 K4 (dd + 1) (c + 1) c _ (by omega) (by omega) (by omega) lay4 (tc3.rd rd4) tk4 u2 (by rw [F4.c (by omega) (Or.inr rfl)]; exact hR) (by rw [F4.c (by omega) (Or.inr rfl)]; exact hC) (by rw [rd4.1.ct (by decide)]; exact ax.2.1) (by omega)
                      rw [k1] at g4
                      show Wp _ 63 148 [(2, ((2 : Nat) : Int)), (2, ((16 : Nat) : Int)), (0, (dd : Int)), (0, 0), (0, (s : Int)), (0, (c : Int))] [] K4 _ _ _
                      refine g_iload lk_63_148 rfl ?_
                      refine g_if (t := 164) lk_63_150 rfl (by first | (unfold pm_inI; omega) | exact pm_and_in _ _ | exact pm_shr_in _ _ | exact pm_or_in _ _ | exact pm_xor_in _ _ | exact pm_shl_in _ _ | exact pm_cmp_in _ _ | exact pm_b8_in _ | (unfold pm_inI; split <;> omega)) (fun h4 => ?_) (fun h4 => ?_)
                      · replace h4 : (c : Int) < 0 := h4
                        refine g_iconst lk_63_164 ?_
                        refine g_ireturn lk_63_165 (fun _ => by omega) ?_
                        first | exact ⟨lay5, F4.trans nf5, rfl, ft5⟩ | (exfalso; omega)
                      · replace h4 : ¬ ((c : Int) < 0) := h4
                        refine g_aload_n lk_63_153 rfl ?_
                        refine g_aload_n lk_63_154 rfl ?_
                        refine g_iload_n lk_63_155 rfl ?_
                        refine g_iconst lk_63_156 ?_
                        refine g_iadd lk_63_157 ?_
                        refine g_virtual (p := 2) (Qc := _) lk_63_158 rfl (Nat.le_of_ble_eq_true rfl) rfl rfl (lay4.on (by decide) rfl) (Nat.le_of_ble_eq_true rfl) (Nat.le_of_ble_eq_true rfl) (Nat.zero_le _) (Nat.zero_le _) (g4) ?_
                        rintro _ K5 ⟨lay5, nf5, rfl, ft5⟩
                        show Wp _ 63 161 [(2, ((2 : Nat) : Int)), (2, ((16 : Nat) : Int)), (0, (dd : Int)), (0, 0), (0, (s : Int)), (0, (c : Int))] [(0, 0)] K5 _ _ _
                        refine g_if (t := 166) lk_63_161 rfl (by first | (unfold pm_inI; omega) | exact pm_and_in _ _ | exact pm_shr_in _ _ | exact pm_or_in _ _ | exact pm_xor_in _ _ | exact pm_shl_in _ _ | exact pm_cmp_in _ _ | exact pm_b8_in _ | (unfold pm_inI; split <;> omega)) (fun h => absurd h (show ¬ (¬ (0 : Int) = (0 : Int)) by omega)) (fun _ => ?_)
                        refine g_iconst lk_63_164 ?_
                        refine g_ireturn lk_63_165 (fun _ => by omega) ?_
                        first | exact ⟨lay5, F4.trans nf5, rfl, ft5⟩ | (exfalso; omega)
                    · replace h3 : ¬ (¬ (s : Int) = 0) := h3
                      refine g_iconst lk_63_125 ?_
                      refine g_ireturn lk_63_126 (fun _ => by omega) ?_
                      first | exact ⟨lay5, F4.trans nf5, rfl, ft5⟩ | (exfalso; omega)
                  · replace h2 : ¬ ((c : Int) < 31) := h2
                    omega
              | inr y1 =>
                obtain ⟨L1, t1⟩ := y1
                obtain ⟨v1, v2, v3⟩ := pN_ok n5 f u2 k1
                have step : ∀ K4 K5 : pm_M, Lay K5 → NdF 16 M K4 → NdF 16 K4 K5 → pm_ct K4 17 c = (2 : Int) → pm_ct K4 18 c = (s : Int) → Blw M K4 16 c → TkX K5 ch t1 → pm_ct K5 16 3 = ((c + 1 + L1.length : Nat) : Int) → SgAt K5 16 (c + 1) (L1.map (fun y => y.1)) → Blw K4 K5 16 (c + 1) → Sv M K5 → Wp (d + 3) 63 166 [(2, ((2 : Nat) : Int)), (2, ((16 : Nat) : Int)), (0, (dd : Int)), (0, 0), (0, (s : Int)), (0, (c : Int))] [] K5 mc ms (fun ρ M' => Lay M' ∧ NdF 16 M M' ∧ ResX ρ M' (fun x => TkX M' ch x.2 ∧ pm_ct M' 16 3 = ((c + x.1.length : Nat) : Int) ∧ SgAt M' 16 c (x.1.map (fun y => y.1)) ∧ Blw M M' 16 c ∧ Sv M M') (pN ch n R C (f + 1) dd c q t)) := by
                  intro K4 K5 lay5 F4 F5 x1 x2 x3 tk5 ct5 sg5 bl5 sv5
                  cases k2 : pN ch n R C f (dd + 1) (c + 1 + L1.length) c t1 with
                  | inl e =>
                    rw [pN_nd2 a b g hp k1 k2]
                    refine g_aload_n lk_63_166 rfl ?_
                    refine g_getfield lk_63_167 rfl (lay5.on (by decide) rfl) (v := ((19 : Nat) : Int)) (lay5.rf rfl) ?_
                    refine g_iload lk_63_170 rfl ?_
                    refine g_aload_n lk_63_172 rfl ?_
                    refine m_getfield (u := []) (M := K5) lk_63_173 rfl (lay5.on (by decide) rfl) (v := ((c + 1 + L1.length : Nat) : Int)) ct5 ?_
                    have lay1 : Lay (Mu [(19, pm_upd (pm_ct K5 19) c ((c + 1 + L1.length : Nat) : Int))] K5) := lay5.muA (l := []) (a := 19) (f := pm_upd (pm_ct K5 19) c ((c + 1 + L1.length : Nat) : Int)) rfl rfl
                    refine m_iastore (u := []) (u' := [(19, pm_upd (pm_ct K5 19) c ((c + 1 + L1.length : Nat) : Int))]) (M := K5) lk_63_176 (lay5.ay (by decide) rfl) (by omega) (j := c) (by omega) rfl ?_
                    refine g_aload_n lk_63_177 rfl ?_
                    refine g_aload_n lk_63_178 rfl ?_
                    refine g_iload_n lk_63_179 rfl ?_
                    refine g_iconst lk_63_180 ?_
                    refine g_iadd lk_63_181 ?_
                    have fM : Fr [19] K5 (Mu [(19, pm_upd (pm_ct K5 19) c ((c + 1 + L1.length : Nat) : Int))] K5) := Fr.mu _ _ rfl
                    have F6 : NdF 16 M (Mu [(19, pm_upd (pm_ct K5 19) c ((c + 1 + L1.length : Nat) : Int))] K5) := (F4.trans F5).trans (Fr.nd3 (P := 16) fM (by omega))
                    have g5 := ih (d + 2) 0 0 (Mu [(19, pm_upd (pm_ct K5 19) c ((c + 1 + L1.length : Nat) : Int))] K5) (dd + 1) (c + 1 + L1.length) c t1 (by omega) (by omega) (by omega) lay1 (F6.tc (by omega) hM) (Fr.tk3 (P := 16) fM (by omega) tk5) v1 (by rw [F6.c (by omega) (Or.inr rfl)]; exact hR) (by rw [F6.c (by omega) (Or.inr rfl)]; exact hC) (by rw [fM.ct (by decide)]; exact ct5) (by omega)
                    rw [k2] at g5
                    refine g_virtual (p := 2) (Qc := _) lk_63_182 rfl (Nat.le_of_ble_eq_true rfl) rfl rfl (lay1.on (by decide) rfl) (Nat.le_of_ble_eq_true rfl) (Nat.le_of_ble_eq_true rfl) (Nat.zero_le _) (Nat.zero_le _) g5 ?_
                    rintro _ K7 ⟨lay7, nf7, rfl, ft7⟩
                    refine g_ireturn lk_63_185 (fun _ => by omega) ?_
                    exact ⟨lay7, F6.trans nf7, rfl, ft7⟩
                  | inr y2 =>
                    obtain ⟨L2, t2⟩ := y2
                    rw [pN_nd3 a b g hp k1 k2, ex]
                    refine g_aload_n lk_63_166 rfl ?_
                    refine g_getfield lk_63_167 rfl (lay5.on (by decide) rfl) (v := ((19 : Nat) : Int)) (lay5.rf rfl) ?_
                    refine g_iload lk_63_170 rfl ?_
                    refine g_aload_n lk_63_172 rfl ?_
                    refine m_getfield (u := []) (M := K5) lk_63_173 rfl (lay5.on (by decide) rfl) (v := ((c + 1 + L1.length : Nat) : Int)) ct5 ?_
                    have lay1 : Lay (Mu [(19, pm_upd (pm_ct K5 19) c ((c + 1 + L1.length : Nat) : Int))] K5) := lay5.muA (l := []) (a := 19) (f := pm_upd (pm_ct K5 19) c ((c + 1 + L1.length : Nat) : Int)) rfl rfl
                    refine m_iastore (u := []) (u' := [(19, pm_upd (pm_ct K5 19) c ((c + 1 + L1.length : Nat) : Int))]) (M := K5) lk_63_176 (lay5.ay (by decide) rfl) (by omega) (j := c) (by omega) rfl ?_
                    refine g_aload_n lk_63_177 rfl ?_
                    refine g_aload_n lk_63_178 rfl ?_
                    refine g_iload_n lk_63_179 rfl ?_
                    refine g_iconst lk_63_180 ?_
                    refine g_iadd lk_63_181 ?_
                    have fM : Fr [19] K5 (Mu [(19, pm_upd (pm_ct K5 19) c ((c + 1 + L1.length : Nat) : Int))] K5) := Fr.mu _ _ rfl
                    have F6 : NdF 16 M (Mu [(19, pm_upd (pm_ct K5 19) c ((c + 1 + L1.length : Nat) : Int))] K5) := (F4.trans F5).trans (Fr.nd3 (P := 16) fM (by omega))
                    have m3 : pm_ct (Mu [(19, pm_upd (pm_ct K5 19) c ((c + 1 + L1.length : Nat) : Int))] K5) 19 = pm_upd (pm_ct K5 19) c ((c + 1 + L1.length : Nat) : Int) := by rw [Mu_ct]; rfl
                    have m1 : pm_ct (Mu [(19, pm_upd (pm_ct K5 19) c ((c + 1 + L1.length : Nat) : Int))] K5) 17 = pm_ct K5 17 := fM.ct (by decide)
                    have m2 : pm_ct (Mu [(19, pm_upd (pm_ct K5 19) c ((c + 1 + L1.length : Nat) : Int))] K5) 18 = pm_ct K5 18 := fM.ct (by decide)
                    have g5 := ih (d + 2) 0 0 (Mu [(19, pm_upd (pm_ct K5 19) c ((c + 1 + L1.length : Nat) : Int))] K5) (dd + 1) (c + 1 + L1.length) c t1 (by omega) (by omega) (by omega) lay1 (F6.tc (by omega) hM) (Fr.tk3 (P := 16) fM (by omega) tk5) v1 (by rw [F6.c (by omega) (Or.inr rfl)]; exact hR) (by rw [F6.c (by omega) (Or.inr rfl)]; exact hC) (by rw [fM.ct (by decide)]; exact ct5) (by omega)
                    rw [k2] at g5
                    refine g_virtual (p := 2) (Qc := _) lk_63_182 rfl (Nat.le_of_ble_eq_true rfl) rfl rfl (lay1.on (by decide) rfl) (Nat.le_of_ble_eq_true rfl) (Nat.le_of_ble_eq_true rfl) (Nat.zero_le _) (Nat.zero_le _) g5 ?_
                    rintro _ K7 ⟨lay7, nf7, rfl, tk7, ct7, sg7, bl7, sv7⟩
                    refine g_ireturn lk_63_185 (fun _ => by omega) ?_
                    refine ⟨lay7, F6.trans nf7, rfl, tk7, ?_, ?_, ?_, (sv5.trans (fM.sv (by decide))).trans sv7⟩
                    · show pm_ct K7 16 3 = ((c + (L1 ++ L2).length.succ : Nat) : Int)
                      rw [List.length_append, show c + (L1.length + L2.length).succ = c + 1 + L1.length + L2.length by omega]
                      exact ct7
                    · rw [List.map_cons, List.map_append]
                      exact SgAt.join (P := 16) x1 x2 bl5 sg5 m1 m2 m3 (by rw [List.length_map]; exact bl7) (by rw [List.length_map]; exact sg7)
                    · exact ((x3.trans bl5 (by omega)).trans (Blw.put (P := 16) m1 m2 m3) (Nat.le_refl _)).trans bl7 (by omega)
                clear w1 w2 w3 w4 w5
                have hp' := hp
                rw [em] at hp'
                refine g_aload_n lk_63_0 rfl ?_
                refine m_getfield (u := []) (M := M) lk_63_1 rfl (lay.on (by decide) rfl) (v := 1) f10' ?_
                refine g_iconst lk_63_4 ?_
                refine g_icmp (t := 33) lk_63_5 rfl (by first | (unfold pm_inI; omega) | exact pm_and_in _ _ | exact pm_shr_in _ _ | exact pm_or_in _ _ | exact pm_xor_in _ _ | exact pm_shl_in _ _ | exact pm_cmp_in _ _ | exact pm_b8_in _ | (unfold pm_inI; split <;> omega)) (by first | (unfold pm_inI; omega) | exact pm_and_in _ _ | exact pm_shr_in _ _ | exact pm_or_in _ _ | exact pm_xor_in _ _ | exact pm_shl_in _ _ | exact pm_cmp_in _ _ | exact pm_b8_in _ | (unfold pm_inI; split <;> omega)) (fun h => absurd h (show ¬ (¬ (1 : Int) = (1 : Int)) by omega)) (fun _ => ?_)
                refine g_aload_n lk_63_8 rfl ?_
                refine m_getfield (u := []) (M := M) lk_63_9 rfl (lay.on (by decide) rfl) (v := 2) f13x ?_
                refine g_ldc lk_63_12 ?_
                refine g_icmp (t := 39) lk_63_14 rfl (by first | (unfold pm_inI; omega) | exact pm_and_in _ _ | exact pm_shr_in _ _ | exact pm_or_in _ _ | exact pm_xor_in _ _ | exact pm_shl_in _ _ | exact pm_cmp_in _ _ | exact pm_b8_in _ | (unfold pm_inI; split <;> omega)) (by first | (unfold pm_inI; omega) | exact pm_and_in _ _ | exact pm_shr_in _ _ | exact pm_or_in _ _ | exact pm_xor_in _ _ | exact pm_shl_in _ _ | exact pm_cmp_in _ _ | exact pm_b8_in _ | (unfold pm_inI; split <;> omega)) (fun h => absurd h (show ¬ ((2 : Int) = (239874 : Int)) by omega)) (fun _ => ?_)
                refine g_aload_n lk_63_17 rfl ?_
                refine m_getfield (u := []) (M := M) lk_63_18 rfl (lay.on (by decide) rfl) (v := 2) f13x ?_
                refine g_iconst lk_63_21 ?_
                refine g_icmp (t := 39) lk_63_22 rfl (by first | (unfold pm_inI; omega) | exact pm_and_in _ _ | exact pm_shr_in _ _ | exact pm_or_in _ _ | exact pm_xor_in _ _ | exact pm_shl_in _ _ | exact pm_cmp_in _ _ | exact pm_b8_in _ | (unfold pm_inI; split <;> omega)) (by first | (unfold pm_inI; omega) | exact pm_and_in _ _ | exact pm_shr_in _ _ | exact pm_or_in _ _ | exact pm_xor_in _ _ | exact pm_shl_in _ _ | exact pm_cmp_in _ _ | exact pm_b8_in _ | (unfold pm_inI; split <;> omega)) (fun h => absurd h (show ¬ ((2 : Int) = (1 : Int)) by omega)) (fun _ => ?_)
                refine g_aload_n lk_63_25 rfl ?_
                refine m_getfield (u := []) (M := M) lk_63_26 rfl (lay.on (by decide) rfl) (v := 2) f13x ?_
                refine g_iconst lk_63_29 ?_
                refine g_icmp (t := 39) lk_63_30 rfl (by first | (unfold pm_inI; omega) | exact pm_and_in _ _ | exact pm_shr_in _ _ | exact pm_or_in _ _ | exact pm_xor_in _ _ | exact pm_shl_in _ _ | exact pm_cmp_in _ _ | exact pm_b8_in _ | (unfold pm_inI; split <;> omega)) (by first | (unfold pm_inI; omega) | exact pm_and_in _ _ | exact pm_shr_in _ _ | exact pm_or_in _ _ | exact pm_xor_in _ _ | exact pm_shl_in _ _ | exact pm_cmp_in _ _ | exact pm_b8_in _ | (unfold pm_inI; split <;> omega)) (fun _ => ?_) (fun h => absurd (show (2 : Int) = (2 : Int) by omega) h)
                refine g_iload_n lk_63_39 rfl ?_
                refine g_bipush lk_63_40 ?_
                refine g_icmp (t := 54) lk_63_42 rfl (by first | (unfold pm_inI; omega) | exact pm_and_in _ _ | exact pm_shr_in _ _ | exact pm_or_in _ _ | exact pm_xor_in _ _ | exact pm_shl_in _ _ | exact pm_cmp_in _ _ | exact pm_b8_in _ | (unfold pm_inI; split <;> omega)) (by first | (unfold pm_inI; omega) | exact pm_and_in _ _ | exact pm_shr_in _ _ | exact pm_or_in _ _ | exact pm_xor_in _ _ | exact pm_shl_in _ _ | exact pm_cmp_in _ _ | exact pm_b8_in _ | (unfold pm_inI; split <;> omega)) (fun h1 => ?_) (fun h1 => ?_)
                · replace h1 : 9 ≤ (dd : Int) := h1
                  omega
                · replace h1 : ¬ (9 ≤ (dd : Int)) := h1
                  refine g_aload_n lk_63_45 rfl ?_
                  refine m_getfield (u := []) (M := M) lk_63_46 rfl (lay.on (by decide) rfl) (v := (c : Int)) hc ?_
                  refine g_bipush lk_63_49 ?_
                  refine g_icmp (t := 60) lk_63_51 rfl (by first | (unfold pm_inI; omega) | exact pm_and_in _ _ | exact pm_shr_in _ _ | exact pm_or_in _ _ | exact pm_xor_in _ _ | exact pm_shl_in _ _ | exact pm_cmp_in _ _ | exact pm_b8_in _ | (unfold pm_inI; split <;> omega)) (by first | (unfold pm_inI; omega) | exact pm_and_in _ _ | exact pm_shr_in _ _ | exact pm_or_in _ _ | exact pm_xor_in _ _ | exact pm_shl_in _ _ | exact pm_cmp_in _ _ | exact pm_b8_in _ | (unfold pm_inI; split <;> omega)) (fun h2 => ?_) (fun h2 => ?_)
                  · replace h2 : (c : Int) < 31 := h2
                    refine g_aload_n lk_63_60 rfl ?_
                    refine m_getfield (u := []) (M := M) lk_63_61 rfl (lay.on (by decide) rfl) (v := 2) f13x ?_
                    refine g_ldc lk_63_64 ?_
                    refine g_icmp (t := 75) lk_63_66 rfl (by first | (unfold pm_inI; omega) | exact pm_and_in _ _ | exact pm_shr_in _ _ | exact pm_or_in _ _ | exact pm_xor_in _ _ | exact pm_shl_in _ _ | exact pm_cmp_in _ _ | exact pm_b8_in _ | (unfold pm_inI; split <;> omega)) (by first | (unfold pm_inI; omega) | exact pm_and_in _ _ | exact pm_shr_in _ _ | exact pm_or_in _ _ | exact pm_xor_in _ _ | exact pm_shl_in _ _ | exact pm_cmp_in _ _ | exact pm_b8_in _ | (unfold pm_inI; split <;> omega)) (fun _ => ?_) (fun h => absurd (show ¬ (2 : Int) = (239874 : Int) by omega) h)
                    refine g_aload_n lk_63_75 rfl ?_
                    refine m_getfield (u := []) (M := M) lk_63_76 rfl (lay.on (by decide) rfl) (v := 2) f13x ?_
                    refine g_iconst lk_63_79 ?_
                    refine g_icmp (t := 87) lk_63_80 rfl (by first | (unfold pm_inI; omega) | exact pm_and_in _ _ | exact pm_shr_in _ _ | exact pm_or_in _ _ | exact pm_xor_in _ _ | exact pm_shl_in _ _ | exact pm_cmp_in _ _ | exact pm_b8_in _ | (unfold pm_inI; split <;> omega)) (by first | (unfold pm_inI; omega) | exact pm_and_in _ _ | exact pm_shr_in _ _ | exact pm_or_in _ _ | exact pm_xor_in _ _ | exact pm_shl_in _ _ | exact pm_cmp_in _ _ | exact pm_b8_in _ | (unfold pm_inI; split <;> omega)) (fun _ => ?_) (fun h => absurd (show ¬ (2 : Int) = (1 : Int) by omega) h)
                    refine g_iconst lk_63_87 ?_
                    refine g_istore_n (ls' := [(2, ((2 : Nat) : Int)), (2, ((16 : Nat) : Int)), (0, (dd : Int)), (0, 0), (9, 0), (9, 0)]) lk_63_88 rfl rfl ?_
                    refine g_aload_n lk_63_89 rfl ?_
                    refine g_virtual (p := 2) (Qc := _) lk_63_90 rfl (Nat.le_of_ble_eq_true rfl) rfl rfl (lay.on (by decide) rfl) (Nat.le_of_ble_eq_true rfl) (Nat.le_of_ble_eq_true rfl) (Nat.zero_le _) (Nat.zero_le _) (ad) ?_
                    rintro _ K1 ⟨rfl, lay1, rd1, tk1⟩
                    have f4 : pm_ct K1 4 2 = (C : Int) := (by rw [rd1.1.ct (by decide)]; exact hC)
                    have hc1 : pm_ct K1 16 3 = (c : Int) := (by rw [rd1.1.ct (by decide)]; exact hc)
                    show Wp _ 63 93 [(2, ((2 : Nat) : Int)), (2, ((16 : Nat) : Int)), (0, (dd : Int)), (0, 0), (9, 0), (9, 0)] [] K1 _ _ _
                    refine g_aload_n lk_63_93 rfl ?_
                    refine g_iload_n lk_63_94 rfl ?_
                    refine g_if (t := 108) lk_63_95 rfl (by first | (unfold pm_inI; omega) | exact pm_and_in _ _ | exact pm_shr_in _ _ | exact pm_or_in _ _ | exact pm_xor_in _ _ | exact pm_shl_in _ _ | exact pm_cmp_in _ _ | exact pm_b8_in _ | (unfold pm_inI; split <;> omega)) (fun _ => ?_) (fun h => absurd (show (0 : Int) = (0 : Int) by omega) h)
                    refine g_aload_n lk_63_108 rfl ?_
                    refine g_getfield lk_63_109 rfl (lay1.on (by decide) rfl) (v := ((4 : Nat) : Int)) (lay1.rf rfl) ?_
                    refine m_getfield (u := []) (M := K1) lk_63_112 rfl (lay1.on (by decide) rfl) (v := (C : Int)) f4 ?_
                    refine g_virtual (p := 2) (Qc := _) lk_63_115 rfl (Nat.le_of_ble_eq_true rfl) rfl rfl (lay1.on (by decide) rfl) (Nat.le_of_ble_eq_true rfl) (Nat.le_of_ble_eq_true rfl) (Nat.zero_le _) (Nat.zero_le _) (c_Reader_readSet (d := d + 1) (mc := 0) (ms := 0) lay1 (hM.rd rd1) tk1 u1 c6) ?_
                    rintro ρ2 K2 ⟨lay2, re2, o2⟩
                    obtain ⟨s1, s2, rfl, eK⟩ := set_inr hp' o2
                    rw [eK]
                    show Wp _ 63 118 [(2, ((2 : Nat) : Int)), (2, ((16 : Nat) : Int)), (0, (dd : Int)), (0, 0), (9, 0), (9, 0)] [(0, (s : Int))] K1 _ _ _
                    refine g_istore (ls' := [(2, ((2 : Nat) : Int)), (2, ((16 : Nat) : Int)), (0, (dd : Int)), (0, 0), (0, (s : Int)), (9, 0)]) lk_63_118 rfl rfl ?_
                    refine g_iload lk_63_120 rfl ?_
                    refine g_if (t := 127) lk_63_122 rfl (by first | (unfold pm_inI; omega) | exact pm_and_in _ _ | exact pm_shr_in _ _ | exact pm_or_in _ _ | exact pm_xor_in _ _ | exact pm_shl_in _ _ | exact pm_cmp_in _ _ | exact pm_b8_in _ | (unfold pm_inI; split <;> omega)) (fun h3 => ?_) (fun h3 => ?_)
                    · replace h3 : ¬ (s : Int) = 0 := h3
                      refine g_aload_n lk_63_127 rfl ?_
                      refine g_iload_n lk_63_128 rfl ?_
                      refine g_if (t := 136) lk_63_129 rfl (by first | (unfold pm_inI; omega) | exact pm_and_in _ _ | exact pm_shr_in _ _ | exact pm_or_in _ _ | exact pm_xor_in _ _ | exact pm_shl_in _ _ | exact pm_cmp_in _ _ | exact pm_b8_in _ | (unfold pm_inI; split <;> omega)) (fun _ => ?_) (fun h => absurd (show (0 : Int) = (0 : Int) by omega) h)
                      refine g_iconst lk_63_136 ?_
                      refine g_iload lk_63_137 rfl ?_
                      refine g_virtual (p := 16) (Qc := _) lk_63_139 rfl (Nat.le_of_ble_eq_true rfl) rfl rfl (lay1.on (by decide) rfl) (Nat.le_of_ble_eq_true rfl) (Nat.le_of_ble_eq_true rfl) (Nat.zero_le _) (Nat.zero_le _) (c_Nodes_addR2 (d := d + 2) (mc := 0) (ms := 0) (x := 2) (y := s) lay1 hc1 c30) ?_
                      rintro _ K3 ⟨rfl, lay3, ax⟩
                      have tc3 := (ax.nd (by omega)).tc (by omega) (hM.rd rd1)
                      have ad3 := c_Reader_advance (d := d + 1) (mc := 0) (ms := 0) lay3 tc3 (ax.tk (by omega) tk1).2.2.2.1 u1.2.2.1
                      show Wp _ 63 142 [(2, ((2 : Nat) : Int)), (2, ((16 : Nat) : Int)), (0, (dd : Int)), (0, 0), (0, (s : Int)), (9, 0)] [(0, (c : Int))] K3 _ _ _
                      refine g_istore (ls' := [(2, ((2 : Nat) : Int)), (2, ((16 : Nat) : Int)), (0, (dd : Int)), (0, 0), (0, (s : Int)), (0, (c : Int))]) lk_63_142 rfl rfl ?_
                      refine g_aload_n lk_63_144 rfl ?_
                      refine g_virtual (p := 2) (Qc := _) lk_63_145 rfl (Nat.le_of_ble_eq_true rfl) rfl rfl (lay3.on (by decide) rfl) (Nat.le_of_ble_eq_true rfl) (Nat.le_of_ble_eq_true rfl) (Nat.zero_le _) (Nat.zero_le _) (ad3) ?_
                      rintro _ K4 ⟨rfl, lay4, rd4, tk4⟩
                      have F4 : NdF 16 M K4 := (rd1.re.nd.trans (ax.nd (by omega))).trans rd4.re.nd
                      have x3 : Blw M K4 16 c := ((rd1.blw (by omega)).trans ax.blw (Nat.le_refl _)).trans (rd4.blw (c := c) (by omega)) (Nat.le_refl _)
                      have x1 : pm_ct K4 17 c = (2 : Int) := (by rw [rd4.1.ct (by decide)]; exact ax.at.1)
                      have x2 : pm_ct K4 18 c = (s : Int) := (by rw [rd4.1.ct (by decide)]; exact ax.at.2.1)
                      have sv4 : Sv M K4 := (rd1.sv.trans (ax.1.sv (by decide))).trans rd4.sv
                      have g4 := ih (d + 2) 0 0 K4 (dd + 1) (c + 1) c _ (by omega) (by omega) (by omega) lay4 (tc3.rd rd4) tk4 u2 (by rw [F4.c (by omega) (Or.inr rfl)]; exact hR) (by rw [F4.c (by omega) (Or.inr rfl)]; exact hC) (by rw [rd4.1.ct (by decide)]; exact ax.2.1) (by omega)
                      rw [k1] at g4
                      show Wp _ 63 148 [(2, ((2 : Nat) : Int)), (2, ((16 : Nat) : Int)), (0, (dd : Int)), (0, 0), (0, (s : Int)), (0, (c : Int))] [] K4 _ _ _
                      refine g_iload lk_63_148 rfl ?_
                      refine g_if (t := 164) lk_63_150 rfl (by first | (unfold pm_inI; omega) | exact pm_and_in _ _ | exact pm_shr_in _ _ | exact pm_or_in _ _ | exact pm_xor_in _ _ | exact pm_shl_in _ _ | exact pm_cmp_in _ _ | exact pm_b8_in _ | (unfold pm_inI; split <;> omega)) (fun h4 => ?_) (fun h4 => ?_)
                      · replace h4 : (c : Int) < 0 := h4
                        omega
                      · replace h4 : ¬ ((c : Int) < 0) := h4
                        refine g_aload_n lk_63_153 rfl ?_
                        refine g_aload_n lk_63_154 rfl ?_
                        refine g_iload_n lk_63_155 rfl ?_
                        refine g_iconst lk_63_156 ?_
                        refine g_iadd lk_63_157 ?_
                        refine g_virtual (p := 2) (Qc := _) lk_63_158 rfl (Nat.le_of_ble_eq_true rfl) rfl rfl (lay4.on (by decide) rfl) (Nat.le_of_ble_eq_true rfl) (Nat.le_of_ble_eq_true rfl) (Nat.zero_le _) (Nat.zero_le _) (g4) ?_
                        rintro _ K5 ⟨lay5, nf5, rfl, tk5, ct5, sg5, bl5, sv5⟩
                        show Wp _ 63 161 [(2, ((2 : Nat) : Int)), (2, ((16 : Nat) : Int)), (0, (dd : Int)), (0, 0), (0, (s : Int)), (0, (c : Int))] [(0, 1)] K5 _ _ _
                        refine g_if (t := 166) lk_63_161 rfl (by first | (unfold pm_inI; omega) | exact pm_and_in _ _ | exact pm_shr_in _ _ | exact pm_or_in _ _ | exact pm_xor_in _ _ | exact pm_shl_in _ _ | exact pm_cmp_in _ _ | exact pm_b8_in _ | (unfold pm_inI; split <;> omega)) (fun _ => ?_) (fun h => absurd (show ¬ (1 : Int) = (0 : Int) by omega) h)
                        exact step K4 K5 lay5 F4 nf5 x1 x2 x3 tk5 ct5 sg5 bl5 (sv4.trans sv5)
                    · replace h3 : ¬ (¬ (s : Int) = 0) := h3
                      refine g_iconst lk_63_125 ?_
                      refine g_ireturn lk_63_126 (fun _ => by omega) ?_
                      omega
                  · replace h2 : ¬ ((c : Int) < 31) := h2
                    omega
    · rw [pN_no a]
      clear ih
      by_cases e : t.1 = 1
      · have f10' : pm_ct M 2 10 = 1 := by rw [f10, e]; rfl
        obtain ⟨w1, w2, w3, w4, w5⟩ := w27_con (hK.lt e)
        have f13' : pm_ct M 2 13 = ((nr 27 (twd ch t) : Nat) : Int) := f13 e
        obtain ⟨w, hw⟩ : ∃ w, w = nr 27 (twd ch t) := ⟨_, rfl⟩
        have ws : w < 1073741824 := by rw [hw]; exact nr_small (b := 27) (by omega) (by omega) (hK.lt e)
        rw [← hw] at f13' w1 w2 w5
        have n1 : ¬ (w : Int) = 1 := fun k => a ⟨e, Or.inr (Or.inl (w1.mp k))⟩
        have n2 : ¬ (w : Int) = 2 := fun k => a ⟨e, Or.inr (Or.inr (w2.mp k))⟩
        have n3 : ¬ (w : Int) = 239874 := fun k => a ⟨e, Or.inl (w5.mp k)⟩
        clear w1 w2 w3 w4 w5 a
        refine g_aload_n lk_63_0 rfl ?_
        refine m_getfield (u := []) (M := M) lk_63_1 rfl (lay.on (by decide) rfl) (v := 1) f10' ?_
        refine g_iconst lk_63_4 ?_
        refine g_icmp (t := 33) lk_63_5 rfl (by first | (unfold pm_inI; omega) | exact pm_and_in _ _ | exact pm_shr_in _ _ | exact pm_or_in _ _ | exact pm_xor_in _ _ | exact pm_shl_in _ _ | exact pm_cmp_in _ _ | exact pm_b8_in _ | (unfold pm_inI; split <;> omega)) (by first | (unfold pm_inI; omega) | exact pm_and_in _ _ | exact pm_shr_in _ _ | exact pm_or_in _ _ | exact pm_xor_in _ _ | exact pm_shl_in _ _ | exact pm_cmp_in _ _ | exact pm_b8_in _ | (unfold pm_inI; split <;> omega)) (fun h => absurd h (show ¬ (¬ (1 : Int) = (1 : Int)) by omega)) (fun _ => ?_)
        refine g_aload_n lk_63_8 rfl ?_
        refine m_getfield (u := []) (M := M) lk_63_9 rfl (lay.on (by decide) rfl) (v := (w : Int)) f13' ?_
        refine g_ldc lk_63_12 ?_
        refine g_icmp (t := 39) lk_63_14 rfl (by first | (unfold pm_inI; omega) | exact pm_and_in _ _ | exact pm_shr_in _ _ | exact pm_or_in _ _ | exact pm_xor_in _ _ | exact pm_shl_in _ _ | exact pm_cmp_in _ _ | exact pm_b8_in _ | (unfold pm_inI; split <;> omega)) (by first | (unfold pm_inI; omega) | exact pm_and_in _ _ | exact pm_shr_in _ _ | exact pm_or_in _ _ | exact pm_xor_in _ _ | exact pm_shl_in _ _ | exact pm_cmp_in _ _ | exact pm_b8_in _ | (unfold pm_inI; split <;> omega)) (fun h1 => ?_) (fun h1 => ?_)
        · replace h1 : (w : Int) = 239874 := h1
          omega
        · replace h1 : ¬ ((w : Int) = 239874) := h1
          refine g_aload_n lk_63_17 rfl ?_
          refine m_getfield (u := []) (M := M) lk_63_18 rfl (lay.on (by decide) rfl) (v := (w : Int)) f13' ?_
          refine g_iconst lk_63_21 ?_
          refine g_icmp (t := 39) lk_63_22 rfl (by first | (unfold pm_inI; omega) | exact pm_and_in _ _ | exact pm_shr_in _ _ | exact pm_or_in _ _ | exact pm_xor_in _ _ | exact pm_shl_in _ _ | exact pm_cmp_in _ _ | exact pm_b8_in _ | (unfold pm_inI; split <;> omega)) (by first | (unfold pm_inI; omega) | exact pm_and_in _ _ | exact pm_shr_in _ _ | exact pm_or_in _ _ | exact pm_xor_in _ _ | exact pm_shl_in _ _ | exact pm_cmp_in _ _ | exact pm_b8_in _ | (unfold pm_inI; split <;> omega)) (fun h2 => ?_) (fun h2 => ?_)
          · replace h2 : (w : Int) = 1 := h2
            omega
          · replace h2 : ¬ ((w : Int) = 1) := h2
            refine g_aload_n lk_63_25 rfl ?_
            refine m_getfield (u := []) (M := M) lk_63_26 rfl (lay.on (by decide) rfl) (v := (w : Int)) f13' ?_
            refine g_iconst lk_63_29 ?_
            refine g_icmp (t := 39) lk_63_30 rfl (by first | (unfold pm_inI; omega) | exact pm_and_in _ _ | exact pm_shr_in _ _ | exact pm_or_in _ _ | exact pm_xor_in _ _ | exact pm_shl_in _ _ | exact pm_cmp_in _ _ | exact pm_b8_in _ | (unfold pm_inI; split <;> omega)) (by first | (unfold pm_inI; omega) | exact pm_and_in _ _ | exact pm_shr_in _ _ | exact pm_or_in _ _ | exact pm_xor_in _ _ | exact pm_shl_in _ _ | exact pm_cmp_in _ _ | exact pm_b8_in _ | (unfold pm_inI; split <;> omega)) (fun h3 => ?_) (fun h3 => ?_)
            · replace h3 : (w : Int) = 2 := h3
              omega
            · replace h3 : ¬ ((w : Int) = 2) := h3
              refine g_aload_n lk_63_33 rfl ?_
              refine g_iconst lk_63_34 ?_
              refine g_virtual (p := 2) (Qc := _) lk_63_35 rfl (Nat.le_of_ble_eq_true rfl) rfl rfl (lay.on (by decide) rfl) (Nat.le_of_ble_eq_true rfl) (Nat.le_of_ble_eq_true rfl) (Nat.zero_le _) (Nat.zero_le _) (rf2) ?_
              rintro _ K1 ⟨rfl, lay1, re1, ft1⟩
              show Wp _ 63 38 [(2, ((2 : Nat) : Int)), (2, ((16 : Nat) : Int)), (0, (dd : Int)), (9, 0), (9, 0), (9, 0)] [(0, 0)] K1 _ _ _
              refine g_ireturn lk_63_38 (fun _ => by omega) ?_
              exact ⟨lay1, re1.nd, rfl, ft1⟩
      · obtain ⟨K, hk⟩ : ∃ K, K = t.1 := ⟨_, rfl⟩
        rw [← hk] at f10 t4 e
        clear a
        refine g_aload_n lk_63_0 rfl ?_
        refine m_getfield (u := []) (M := M) lk_63_1 rfl (lay.on (by decide) rfl) (v := (K : Int)) f10 ?_
        refine g_iconst lk_63_4 ?_
        refine g_icmp (t := 33) lk_63_5 rfl (by first | (unfold pm_inI; omega) | exact pm_and_in _ _ | exact pm_shr_in _ _ | exact pm_or_in _ _ | exact pm_xor_in _ _ | exact pm_shl_in _ _ | exact pm_cmp_in _ _ | exact pm_b8_in _ | (unfold pm_inI; split <;> omega)) (by first | (unfold pm_inI; omega) | exact pm_and_in _ _ | exact pm_shr_in _ _ | exact pm_or_in _ _ | exact pm_xor_in _ _ | exact pm_shl_in _ _ | exact pm_cmp_in _ _ | exact pm_b8_in _ | (unfold pm_inI; split <;> omega)) (fun h1 => ?_) (fun h1 => ?_)
        · replace h1 : ¬ (K : Int) = 1 := h1
          refine g_aload_n lk_63_33 rfl ?_
          refine g_iconst lk_63_34 ?_
          refine g_virtual (p := 2) (Qc := _) lk_63_35 rfl (Nat.le_of_ble_eq_true rfl) rfl rfl (lay.on (by decide) rfl) (Nat.le_of_ble_eq_true rfl) (Nat.le_of_ble_eq_true rfl) (Nat.zero_le _) (Nat.zero_le _) (rf2) ?_
          rintro _ K1 ⟨rfl, lay1, re1, ft1⟩
          show Wp _ 63 38 [(2, ((2 : Nat) : Int)), (2, ((16 : Nat) : Int)), (0, (dd : Int)), (9, 0), (9, 0), (9, 0)] [(0, 0)] K1 _ _ _
          refine g_ireturn lk_63_38 (fun _ => by omega) ?_
          exact ⟨lay1, re1.nd, rfl, ft1⟩
        · replace h1 : ¬ (¬ (K : Int) = 1) := h1
          omega
theorem c_Nodes_addR3 {d mc ms : Nat} {M : pm_M} (lay : Lay M) {k x y : Nat} (hk : pm_ct M 20 3 = (k : Int)) (k31 : k < 31) :
    pm_E d 36 [(2, ((20 : Nat) : Int)), (0, (x : Int)), (0, (y : Int))] M mc ms (fun ρ M' => ρ = some (0, (k : Int)) ∧ Lay M' ∧ AdX M M' 20 k x y) := by
  show Wp d 36 0 [(2, ((20 : Nat) : Int)), (0, (x : Int)), (0, (y : Int))] [] M mc ms _
  refine g_aload_n lk_36_0 rfl ?_
  refine m_getfield (u := []) (M := M) lk_36_1 rfl (lay.on (by decide) rfl) (v := (k : Int)) hk ?_
  refine g_aload_n lk_36_4 rfl ?_
  refine g_getfield lk_36_5 rfl (lay.on (by decide) rfl) (v := ((21 : Nat) : Int)) (lay.rf rfl) ?_
  refine g_arraylength (n := 31) lk_36_8 (by decide) (lay.ay (by decide) rfl) ?_
  refine g_icmp (t := 14) lk_36_9 rfl (by first | (unfold pm_inI; omega) | exact pm_and_in _ _ | exact pm_shr_in _ _ | exact pm_or_in _ _ | exact pm_xor_in _ _ | exact pm_shl_in _ _ | exact pm_cmp_in _ _ | exact pm_b8_in _ | (unfold pm_inI; split <;> omega)) (by first | (unfold pm_inI; omega) | exact pm_and_in _ _ | exact pm_shr_in _ _ | exact pm_or_in _ _ | exact pm_xor_in _ _ | exact pm_shl_in _ _ | exact pm_cmp_in _ _ | exact pm_b8_in _ | (unfold pm_inI; split <;> omega)) (fun h1 => ?_) (fun h1 => ?_)
  · replace h1 : (k : Int) < 31 := h1
    refine g_aload_n lk_36_14 rfl ?_
    refine g_getfield lk_36_15 rfl (lay.on (by decide) rfl) (v := ((21 : Nat) : Int)) (lay.rf rfl) ?_
    refine g_aload_n lk_36_18 rfl ?_
    refine m_getfield (u := []) (M := M) lk_36_19 rfl (lay.on (by decide) rfl) (v := (k : Int)) hk ?_
    refine g_iload_n lk_36_22 rfl ?_
    have lay2 : Lay (Mu [(21, pm_upd (pm_ct M 21) k (x : Int))] M) := lay.muA (l := []) (a := 21) (f := pm_upd (pm_ct M 21) k (x : Int)) rfl rfl
    refine m_iastore (u := []) (u' := [(21, pm_upd (pm_ct M 21) k (x : Int))]) (M := M) lk_36_23 (lay.ay (by decide) rfl) (by omega) (j := k) (by omega) rfl ?_
    refine g_aload_n lk_36_24 rfl ?_
    refine g_getfield lk_36_25 rfl (lay2.on (by decide) rfl) (v := ((22 : Nat) : Int)) (lay2.rf rfl) ?_
    refine g_aload_n lk_36_28 rfl ?_
    refine m_getfield (u := [(21, pm_upd (pm_ct M 21) k (x : Int))]) (M := M) lk_36_29 rfl (lay2.on (by decide) rfl) (v := (k : Int)) hk ?_
    refine g_iload_n lk_36_32 rfl ?_
    have lay3 : Lay (Mu [(21, pm_upd (pm_ct M 21) k (x : Int)), (22, pm_upd (pm_ct M 22) k (y : Int))] M) := lay2.muA (l := [(21, pm_upd (pm_ct M 21) k (x : Int))]) (a := 22) (f := pm_upd (pm_ct M 22) k (y : Int)) rfl rfl
    refine m_iastore (u := [(21, pm_upd (pm_ct M 21) k (x : Int))]) (u' := [(21, pm_upd (pm_ct M 21) k (x : Int)), (22, pm_upd (pm_ct M 22) k (y : Int))]) (M := M) lk_36_33 (lay2.ay (by decide) rfl) (by omega) (j := k) (by omega) rfl ?_
    refine g_aload_n lk_36_34 rfl ?_
    refine g_getfield lk_36_35 rfl (lay3.on (by decide) rfl) (v := ((23 : Nat) : Int)) (lay3.rf rfl) ?_
    refine g_aload_n lk_36_38 rfl ?_
    refine m_getfield (u := [(21, pm_upd (pm_ct M 21) k (x : Int)), (22, pm_upd (pm_ct M 22) k (y : Int))]) (M := M) lk_36_39 rfl (lay3.on (by decide) rfl) (v := (k : Int)) hk ?_
    refine g_iconst lk_36_42 ?_
    have lay4 : Lay (Mu [(21, pm_upd (pm_ct M 21) k (x : Int)), (22, pm_upd (pm_ct M 22) k (y : Int)), (23, pm_upd (pm_ct M 23) k (-1))] M) := lay3.muA (l := [(21, pm_upd (pm_ct M 21) k (x : Int)), (22, pm_upd (pm_ct M 22) k (y : Int))]) (a := 23) (f := pm_upd (pm_ct M 23) k (-1)) rfl rfl
    refine m_iastore (u := [(21, pm_upd (pm_ct M 21) k (x : Int)), (22, pm_upd (pm_ct M 22) k (y : Int))]) (u' := [(21, pm_upd (pm_ct M 21) k (x : Int)), (22, pm_upd (pm_ct M 22) k (y : Int)), (23, pm_upd (pm_ct M 23) k (-1))]) (M := M) lk_36_43 (lay3.ay (by decide) rfl) (by omega) (j := k) (by omega) rfl ?_
    refine g_aload_n lk_36_44 rfl ?_
    refine g_dup lk_36_45 rfl ?_
    refine m_getfield (u := [(21, pm_upd (pm_ct M 21) k (x : Int)), (22, pm_upd (pm_ct M 22) k (y : Int)), (23, pm_upd (pm_ct M 23) k (-1))]) (M := M) lk_36_46 rfl (lay4.on (by decide) rfl) (v := (k : Int)) hk ?_
    refine g_iconst lk_36_49 ?_
    refine g_iadd lk_36_50 ?_
    have lay5 : Lay (Mu [(21, pm_upd (pm_ct M 21) k (x : Int)), (22, pm_upd (pm_ct M 22) k (y : Int)), (23, pm_upd (pm_ct M 23) k (-1)), (20, pm_upd (pm_ct M 20) 3 ((k : Int) + 1))] M) := lay4.muF (l := [(21, pm_upd (pm_ct M 21) k (x : Int)), (22, pm_upd (pm_ct M 22) k (y : Int)), (23, pm_upd (pm_ct M 23) k (-1))]) (a := 20) (k := 3) (z := ((k : Int) + 1)) rfl rfl
    refine m_putfield (u := [(21, pm_upd (pm_ct M 21) k (x : Int)), (22, pm_upd (pm_ct M 22) k (y : Int)), (23, pm_upd (pm_ct M 23) k (-1))]) (u' := [(21, pm_upd (pm_ct M 21) k (x : Int)), (22, pm_upd (pm_ct M 22) k (y : Int)), (23, pm_upd (pm_ct M 23) k (-1)), (20, pm_upd (pm_ct M 20) 3 ((k : Int) + 1))]) (M := M) lk_36_51 rfl (lay4.on (by decide) rfl) (fun h => absurd h (by decide)) rfl ?_
    refine g_aload_n lk_36_54 rfl ?_
    refine m_getfield (u := [(21, pm_upd (pm_ct M 21) k (x : Int)), (22, pm_upd (pm_ct M 22) k (y : Int)), (23, pm_upd (pm_ct M 23) k (-1)), (20, pm_upd (pm_ct M 20) 3 ((k : Int) + 1))]) (M := M) lk_36_55 rfl (lay5.on (by decide) rfl) (v := ((k : Int) + 1)) rfl ?_
    refine g_iconst lk_36_58 ?_
    refine g_isub lk_36_59 ?_
    refine g_ireturn lk_36_60 (fun h => absurd h (by decide)) ?_
    refine ⟨?_, lay5, Fr.mu _ _ rfl, by rw [Mu_ct]; rfl, by rw [Mu_ct]; rfl, by rw [Mu_ct]; rfl, by rw [Mu_ct]; rfl⟩
    congr 2
    omega
  · replace h1 : ¬ ((k : Int) < 31) := h1
    refine g_iconst lk_36_12 ?_
    refine g_ireturn lk_36_13 (fun h => absurd h (by decide)) ?_
    omega
theorem c_Reader_readLeaf3 {d mc ms : Nat} {M : pm_M} (lay : Lay M) {n : Nat} {ch : Nat → Nat} (hM : TcX M n ch) {t : Tok} (hT : TkX M ch t) (hK : TkOK ch n t) {c : Nat} (hc : pm_ct M 20 3 = (c : Int)) (c31 : c < 31) :
    pm_E (d + 2) 64 [(2, ((2 : Nat) : Int)), (2, ((20 : Nat) : Int))] M mc ms (fun ρ M' => Lay M' ∧ NdF 20 M M' ∧ ResX ρ M' (fun v => TkX M' ch (lxt ch n (lxt ch n t.2.2).2.2) ∧ pm_ct M' 20 3 = ((c + 1 : Nat) : Int) ∧ SgAt M' 20 c [(0, v, -1)] ∧ Blw M M' 20 c ∧ Sv M M') (pNum ch 0 (lxt ch n t.2.2))) := by
  have n5 := hM.1
  have ad := c_Reader_advance (d := d) (mc := 0) (ms := 0) lay hM hT.2.2.2.1 hK.2.2.1
  have uk := (lxt_ok (ch := ch) hK.2.2.1 n5).1
  obtain ⟨u, hu⟩ : ∃ u, u = lxt ch n t.2.2 := ⟨_, rfl⟩
  rw [← hu] at uk ad ⊢
  show Wp (d + 2) 64 0 [(2, ((2 : Nat) : Int)), (2, ((20 : Nat) : Int))] [] M mc ms _
  cases hp : pNum ch 0 u with
  | inl e =>
    refine g_aload_n lk_64_0 rfl ?_
    refine g_virtual (p := 2) (Qc := _) lk_64_1 rfl (Nat.le_of_ble_eq_true rfl) rfl rfl (lay.on (by decide) rfl) (Nat.le_of_ble_eq_true rfl) (Nat.le_of_ble_eq_true rfl) (Nat.zero_le _) (Nat.zero_le _) (ad) ?_
    rintro _ K1 ⟨rfl, lay1, rd1, tk1⟩
    have inf := c_Reader_isNumberFrom (d := d) (mc := 0) (ms := 0) lay1 (hM.rd rd1) tk1 uk (l := 0) (by omega)
    rw [hp] at inf
    show Wp _ 64 4 [(2, ((2 : Nat) : Int)), (2, ((20 : Nat) : Int))] [] K1 _ _ _
    refine g_aload_n lk_64_4 rfl ?_
    refine g_iconst lk_64_5 ?_
    refine g_virtual (p := 2) (Qc := _) lk_64_6 rfl (Nat.le_of_ble_eq_true rfl) rfl rfl (lay1.on (by decide) rfl) (Nat.le_of_ble_eq_true rfl) (Nat.le_of_ble_eq_true rfl) (Nat.zero_le _) (Nat.zero_le _) (inf) ?_
    rintro _ K2 ⟨lay2, re2, rfl, ft2⟩
    show Wp _ 64 9 [(2, ((2 : Nat) : Int)), (2, ((20 : Nat) : Int))] [(0, 0)] K2 _ _ _
    refine g_if (t := 14) lk_64_9 rfl (by first | (unfold pm_inI; omega) | exact pm_and_in _ _ | exact pm_shr_in _ _ | exact pm_or_in _ _ | exact pm_xor_in _ _ | exact pm_shl_in _ _ | exact pm_cmp_in _ _ | exact pm_b8_in _ | (unfold pm_inI; split <;> omega)) (fun h => absurd h (show ¬ (¬ (0 : Int) = (0 : Int)) by omega)) (fun _ => ?_)
    refine g_iconst lk_64_12 ?_
    refine g_ireturn lk_64_13 (fun _ => by omega) ?_
    exact ⟨lay2, rd1.re.nd.trans re2.nd, rfl, ft2⟩
  | inr v =>
    obtain ⟨p1, p2, p3, p4⟩ := pNum_inr hp
    have ev : (ch u.2.1 : Int) - 48 = (v : Int) := by omega
    obtain ⟨x, hx⟩ : ∃ x, x = ch u.2.1 := ⟨_, rfl⟩
    rw [← hx] at ev
    have v9 : v ≤ 9 := by
      have := run_ch uk p1 (i := u.2.1) (by omega) (by omega)
      omega
    refine g_aload_n lk_64_0 rfl ?_
    refine g_virtual (p := 2) (Qc := _) lk_64_1 rfl (Nat.le_of_ble_eq_true rfl) rfl rfl (lay.on (by decide) rfl) (Nat.le_of_ble_eq_true rfl) (Nat.le_of_ble_eq_true rfl) (Nat.zero_le _) (Nat.zero_le _) (ad) ?_
    rintro _ K1 ⟨rfl, lay1, rd1, tk1⟩
    have inf := c_Reader_isNumberFrom (d := d) (mc := 0) (ms := 0) lay1 (hM.rd rd1) tk1 uk (l := 0) (by omega)
    rw [hp] at inf
    have sg := c_Reader_sign0 (d := d + 1) (mc := 0) (ms := 0) lay1 (hM.rd rd1) tk1 uk p1 hx
    have hc1 : pm_ct K1 20 3 = (c : Int) := (by rw [rd1.1.ct (by decide)]; exact hc)
    show Wp _ 64 4 [(2, ((2 : Nat) : Int)), (2, ((20 : Nat) : Int))] [] K1 _ _ _
    refine g_aload_n lk_64_4 rfl ?_
    refine g_iconst lk_64_5 ?_
    refine g_virtual (p := 2) (Qc := _) lk_64_6 rfl (Nat.le_of_ble_eq_true rfl) rfl rfl (lay1.on (by decide) rfl) (Nat.le_of_ble_eq_true rfl) (Nat.le_of_ble_eq_true rfl) (Nat.zero_le _) (Nat.zero_le _) (inf) ?_
    rintro _ K2 ⟨lay2, re2, rfl, eK⟩
    rw [eK]
    show Wp _ 64 9 [(2, ((2 : Nat) : Int)), (2, ((20 : Nat) : Int))] [(0, 1)] K1 _ _ _
    refine g_if (t := 14) lk_64_9 rfl (by first | (unfold pm_inI; omega) | exact pm_and_in _ _ | exact pm_shr_in _ _ | exact pm_or_in _ _ | exact pm_xor_in _ _ | exact pm_shl_in _ _ | exact pm_cmp_in _ _ | exact pm_b8_in _ | (unfold pm_inI; split <;> omega)) (fun _ => ?_) (fun h => absurd (show ¬ (1 : Int) = (0 : Int) by omega) h)
    refine g_aload_n lk_64_14 rfl ?_
    refine g_iconst lk_64_15 ?_
    refine g_aload_n lk_64_16 rfl ?_
    refine g_iconst lk_64_17 ?_
    refine g_virtual (p := 2) (Qc := _) lk_64_18 rfl (Nat.le_of_ble_eq_true rfl) rfl rfl (lay1.on (by decide) rfl) (Nat.le_of_ble_eq_true rfl) (Nat.le_of_ble_eq_true rfl) (Nat.zero_le _) (Nat.zero_le _) (sg) ?_
    rintro _ N1 ⟨rfl, hN1⟩
    rw [hN1]
    show Wp _ 64 21 [(2, ((2 : Nat) : Int)), (2, ((20 : Nat) : Int))] [(0, (x : Int)), (0, 0), (2, ((20 : Nat) : Int))] K1 _ _ _
    refine g_bipush lk_64_21 ?_
    refine g_isub lk_64_23 ?_
    refine g_top (z := ((x : Int) - 48)) (z' := (v : Int)) (ev) ?_
    refine g_virtual (p := 20) (Qc := _) lk_64_24 rfl (Nat.le_of_ble_eq_true rfl) rfl rfl (lay1.on (by decide) rfl) (Nat.le_of_ble_eq_true rfl) (Nat.le_of_ble_eq_true rfl) (Nat.zero_le _) (Nat.zero_le _) (c_Nodes_addR3 (d := d + 1) (mc := 0) (ms := 0) (x := 0) lay1 hc1 c31) ?_
    rintro _ K3 ⟨rfl, lay3, ax⟩
    have ad3 := c_Reader_advance (d := d) (mc := 0) (ms := 0) lay3 ((ax.nd (by omega)).tc (by omega) (hM.rd rd1)) (ax.tk (by omega) tk1).2.2.2.1 uk.2.2.1
    show Wp _ 64 27 [(2, ((2 : Nat) : Int)), (2, ((20 : Nat) : Int))] [(0, (c : Int))] K3 _ _ _
    refine g_pop lk_64_27 rfl ?_
    refine g_aload_n lk_64_28 rfl ?_
    refine g_virtual (p := 2) (Qc := _) lk_64_29 rfl (Nat.le_of_ble_eq_true rfl) rfl rfl (lay3.on (by decide) rfl) (Nat.le_of_ble_eq_true rfl) (Nat.le_of_ble_eq_true rfl) (Nat.zero_le _) (Nat.zero_le _) (ad3) ?_
    rintro _ K4 ⟨rfl, lay4, rd4, tk4⟩
    show Wp _ 64 32 [(2, ((2 : Nat) : Int)), (2, ((20 : Nat) : Int))] [] K4 _ _ _
    refine g_iconst lk_64_32 ?_
    refine g_ireturn lk_64_33 (fun _ => by omega) ?_
    obtain ⟨a1, a2, a3⟩ := ax.at
    have b4 : Blw K3 K4 20 (c + 1) := rd4.blw (by omega)
    obtain ⟨q1, q2, q3⟩ := b4 c (by omega)
    exact ⟨lay4, (rd1.re.nd.trans (ax.nd (by omega))).trans rd4.re.nd, rfl, tk4, by rw [rd4.1.ct (by decide)]; exact ax.2.1, (fun i y hy => by
      cases i with
      | zero =>
        rw [List.getElem?_cons_zero] at hy
        cases hy
        exact ⟨q1.trans a1, q2.trans a2, q3.trans a3⟩
      | succ i => cases hy), ((rd1.blw (by omega)).trans ax.blw (Nat.le_refl _)).trans b4 (by omega), (rd1.sv.trans (ax.1.sv (by decide))).trans rd4.sv⟩
set_option maxHeartbeats 8000000 in
theorem c_Reader_readNode3 {n R C : Nat} {ch : Nat → Nat} (r6 : R ≤ 6) (c6 : C ≤ 6) : ∀ (f D mc ms : Nat) (M : pm_M) (dd c q : Nat) (t : Tok), f + 2 ≤ D → dd + f = 10 → dd ≤ 9 → Lay M → TcX M n ch → TkX M ch t → TkOK ch n t → pm_ct M 4 1 = (R : Int) → pm_ct M 4 2 = (C : Int) → pm_ct M 20 3 = (c : Int) → c ≤ 31 →
    pm_E D 63 [(2, ((2 : Nat) : Int)), (2, ((20 : Nat) : Int)), (0, (dd : Int))] M mc ms (fun ρ M' => Lay M' ∧ NdF 20 M M' ∧ ResX ρ M' (fun x => TkX M' ch x.2 ∧ pm_ct M' 20 3 = ((c + x.1.length : Nat) : Int) ∧ SgAt M' 20 c (x.1.map (fun y => y.1)) ∧ Blw M M' 20 c ∧ Sv M M') (pN ch n R C f dd c q t)) := by
  intro f
  induction f with
  | zero =>
    intro D mc ms M dd c q t _ g1 g2
    exfalso
    omega
  | succ f ih =>
    intro D mc ms M dd c q t g1 g2 g3 lay hM hT hK hR hC hc c31
    obtain ⟨d, rfl⟩ : ∃ d, D = d + 3 := ⟨D - 3, by omega⟩
    have n5 := hM.1
    have t4 := hK.1
    have f10 := hT.1
    have f13 := hT.2.2.2.2
    show Wp (d + 3) 63 0 [(2, ((2 : Nat) : Int)), (2, ((20 : Nat) : Int)), (0, (dd : Int)), (9, 0), (9, 0), (9, 0)] [] M mc ms _
    have rf2 := c_Reader_refuse (d := d + 2) (mc := 0) (ms := 0) lay hT hK.1 (w := 2)
    have rf5 := c_Reader_refuse (d := d + 2) (mc := 0) (ms := 0) lay hT hK.1 (w := 5)
    by_cases a : isNd ch t
    · have f10' : pm_ct M 2 10 = 1 := by rw [f10, a.1]; rfl
      have lt := hK.lt a.1
      obtain ⟨w1, w2, w3, w4, w5⟩ := w27_con lt
      have f13' : pm_ct M 2 13 = ((nr 27 (twd ch t) : Nat) : Int) := f13 a.1
      by_cases b : 9 ≤ dd ∨ 31 ≤ c
      · rw [pN_full a b]
        obtain ⟨w, hw⟩ : ∃ w, w = nr 27 (twd ch t) := ⟨_, rfl⟩
        have w3' : w = 239874 ∨ w = 1 ∨ w = 2 := by
          rw [hw]
          rcases a.2 with e | e | e
          · have := w5.mpr e; omega
          · have := w1.mpr e; omega
          · have := w2.mpr e; omega
        rw [← hw] at f13'
        clear ih w1 w2 w3 w4 w5 a
        refine g_aload_n lk_63_0 rfl ?_
        refine m_getfield (u := []) (M := M) lk_63_1 rfl (lay.on (by decide) rfl) (v := 1) f10' ?_
        refine g_iconst lk_63_4 ?_
        refine g_icmp (t := 33) lk_63_5 rfl (by first | (unfold pm_inI; omega) | exact pm_and_in _ _ | exact pm_shr_in _ _ | exact pm_or_in _ _ | exact pm_xor_in _ _ | exact pm_shl_in _ _ | exact pm_cmp_in _ _ | exact pm_b8_in _ | (unfold pm_inI; split <;> omega)) (by first | (unfold pm_inI; omega) | exact pm_and_in _ _ | exact pm_shr_in _ _ | exact pm_or_in _ _ | exact pm_xor_in _ _ | exact pm_shl_in _ _ | exact pm_cmp_in _ _ | exact pm_b8_in _ | (unfold pm_inI; split <;> omega)) (fun h => absurd h (show ¬ (¬ (1 : Int) = (1 : Int)) by omega)) (fun _ => ?_)
        refine g_aload_n lk_63_8 rfl ?_
        refine m_getfield (u := []) (M := M) lk_63_9 rfl (lay.on (by decide) rfl) (v := (w : Int)) f13' ?_
        refine g_ldc lk_63_12 ?_
        refine g_icmp (t := 39) lk_63_14 rfl (by first | (unfold pm_inI; omega) | exact pm_and_in _ _ | exact pm_shr_in _ _ | exact pm_or_in _ _ | exact pm_xor_in _ _ | exact pm_shl_in _ _ | exact pm_cmp_in _ _ | exact pm_b8_in _ | (unfold pm_inI; split <;> omega)) (by first | (unfold pm_inI; omega) | exact pm_and_in _ _ | exact pm_shr_in _ _ | exact pm_or_in _ _ | exact pm_xor_in _ _ | exact pm_shl_in _ _ | exact pm_cmp_in _ _ | exact pm_b8_in _ | (unfold pm_inI; split <;> omega)) (fun h1 => ?_) (fun h1 => ?_)
        · replace h1 : (w : Int) = 239874 := h1
          refine g_iload_n lk_63_39 rfl ?_
          refine g_bipush lk_63_40 ?_
          refine g_icmp (t := 54) lk_63_42 rfl (by first | (unfold pm_inI; omega) | exact pm_and_in _ _ | exact pm_shr_in _ _ | exact pm_or_in _ _ | exact pm_xor_in _ _ | exact pm_shl_in _ _ | exact pm_cmp_in _ _ | exact pm_b8_in _ | (unfold pm_inI; split <;> omega)) (by first | (unfold pm_inI; omega) | exact pm_and_in _ _ | exact pm_shr_in _ _ | exact pm_or_in _ _ | exact pm_xor_in _ _ | exact pm_shl_in _ _ | exact pm_cmp_in _ _ | exact pm_b8_in _ | (unfold pm_inI; split <;> omega)) (fun h2 => ?_) (fun h2 => ?_)
          · replace h2 : 9 ≤ (dd : Int) := h2
            refine g_aload_n lk_63_54 rfl ?_
            refine g_iconst lk_63_55 ?_
            refine g_virtual (p := 2) (Qc := _) lk_63_56 rfl (Nat.le_of_ble_eq_true rfl) rfl rfl (lay.on (by decide) rfl) (Nat.le_of_ble_eq_true rfl) (Nat.le_of_ble_eq_true rfl) (Nat.zero_le _) (Nat.zero_le _) (rf5) ?_
            rintro _ K1 ⟨rfl, lay1, re1, ft1⟩
            show Wp _ 63 59 [(2, ((2 : Nat) : Int)), (2, ((20 : Nat) : Int)), (0, (dd : Int)), (9, 0), (9, 0), (9, 0)] [(0, 0)] K1 _ _ _
            refine g_ireturn lk_63_59 (fun _ => by omega) ?_
            exact ⟨lay1, re1.nd, rfl, ft1⟩
          · replace h2 : ¬ (9 ≤ (dd : Int)) := h2
            refine g_aload_n lk_63_45 rfl ?_
            refine m_getfield (u := []) (M := M) lk_63_46 rfl (lay.on (by decide) rfl) (v := (c : Int)) hc ?_
            refine g_bipush lk_63_49 ?_
            refine g_icmp (t := 60) lk_63_51 rfl (by first | (unfold pm_inI; omega) | exact pm_and_in _ _ | exact pm_shr_in _ _ | exact pm_or_in _ _ | exact pm_xor_in _ _ | exact pm_shl_in _ _ | exact pm_cmp_in _ _ | exact pm_b8_in _ | (unfold pm_inI; split <;> omega)) (by first | (unfold pm_inI; omega) | exact pm_and_in _ _ | exact pm_shr_in _ _ | exact pm_or_in _ _ | exact pm_xor_in _ _ | exact pm_shl_in _ _ | exact pm_cmp_in _ _ | exact pm_b8_in _ | (unfold pm_inI; split <;> omega)) (fun h3 => ?_) (fun h3 => ?_)
            · replace h3 : (c : Int) < 31 := h3
              omega
            · replace h3 : ¬ ((c : Int) < 31) := h3
              refine g_aload_n lk_63_54 rfl ?_
              refine g_iconst lk_63_55 ?_
              refine g_virtual (p := 2) (Qc := _) lk_63_56 rfl (Nat.le_of_ble_eq_true rfl) rfl rfl (lay.on (by decide) rfl) (Nat.le_of_ble_eq_true rfl) (Nat.le_of_ble_eq_true rfl) (Nat.zero_le _) (Nat.zero_le _) (rf5) ?_
              rintro _ K1 ⟨rfl, lay1, re1, ft1⟩
              show Wp _ 63 59 [(2, ((2 : Nat) : Int)), (2, ((20 : Nat) : Int)), (0, (dd : Int)), (9, 0), (9, 0), (9, 0)] [(0, 0)] K1 _ _ _
              refine g_ireturn lk_63_59 (fun _ => by omega) ?_
              exact ⟨lay1, re1.nd, rfl, ft1⟩
        · replace h1 : ¬ ((w : Int) = 239874) := h1
          refine g_aload_n lk_63_17 rfl ?_
          refine m_getfield (u := []) (M := M) lk_63_18 rfl (lay.on (by decide) rfl) (v := (w : Int)) f13' ?_
          refine g_iconst lk_63_21 ?_
          refine g_icmp (t := 39) lk_63_22 rfl (by first | (unfold pm_inI; omega) | exact pm_and_in _ _ | exact pm_shr_in _ _ | exact pm_or_in _ _ | exact pm_xor_in _ _ | exact pm_shl_in _ _ | exact pm_cmp_in _ _ | exact pm_b8_in _ | (unfold pm_inI; split <;> omega)) (by first | (unfold pm_inI; omega) | exact pm_and_in _ _ | exact pm_shr_in _ _ | exact pm_or_in _ _ | exact pm_xor_in _ _ | exact pm_shl_in _ _ | exact pm_cmp_in _ _ | exact pm_b8_in _ | (unfold pm_inI; split <;> omega)) (fun h4 => ?_) (fun h4 => ?_)
          · replace h4 : (w : Int) = 1 := h4
            refine g_iload_n lk_63_39 rfl ?_
            refine g_bipush lk_63_40 ?_
            refine g_icmp (t := 54) lk_63_42 rfl (by first | (unfold pm_inI; omega) | exact pm_and_in _ _ | exact pm_shr_in _ _ | exact pm_or_in _ _ | exact pm_xor_in _ _ | exact pm_shl_in _ _ | exact pm_cmp_in _ _ | exact pm_b8_in _ | (unfold pm_inI; split <;> omega)) (by first | (unfold pm_inI; omega) | exact pm_and_in _ _ | exact pm_shr_in _ _ | exact pm_or_in _ _ | exact pm_xor_in _ _ | exact pm_shl_in _ _ | exact pm_cmp_in _ _ | exact pm_b8_in _ | (unfold pm_inI; split <;> omega)) (fun h5 => ?_) (fun h5 => ?_)
            · replace h5 : 9 ≤ (dd : Int) := h5
              refine g_aload_n lk_63_54 rfl ?_
              refine g_iconst lk_63_55 ?_
              refine g_virtual (p := 2) (Qc := _) lk_63_56 rfl (Nat.le_of_ble_eq_true rfl) rfl rfl (lay.on (by decide) rfl) (Nat.le_of_ble_eq_true rfl) (Nat.le_of_ble_eq_true rfl) (Nat.zero_le _) (Nat.zero_le _) (rf5) ?_
              rintro _ K1 ⟨rfl, lay1, re1, ft1⟩
              show Wp _ 63 59 [(2, ((2 : Nat) : Int)), (2, ((20 : Nat) : Int)), (0, (dd : Int)), (9, 0), (9, 0), (9, 0)] [(0, 0)] K1 _ _ _
              refine g_ireturn lk_63_59 (fun _ => by omega) ?_
              exact ⟨lay1, re1.nd, rfl, ft1⟩
            · replace h5 : ¬ (9 ≤ (dd : Int)) := h5
              refine g_aload_n lk_63_45 rfl ?_
              refine m_getfield (u := []) (M := M) lk_63_46 rfl (lay.on (by decide) rfl) (v := (c : Int)) hc ?_
              refine g_bipush lk_63_49 ?_
              refine g_icmp (t := 60) lk_63_51 rfl (by first | (unfold pm_inI; omega) | exact pm_and_in _ _ | exact pm_shr_in _ _ | exact pm_or_in _ _ | exact pm_xor_in _ _ | exact pm_shl_in _ _ | exact pm_cmp_in _ _ | exact pm_b8_in _ | (unfold pm_inI; split <;> omega)) (by first | (unfold pm_inI; omega) | exact pm_and_in _ _ | exact pm_shr_in _ _ | exact pm_or_in _ _ | exact pm_xor_in _ _ | exact pm_shl_in _ _ | exact pm_cmp_in _ _ | exact pm_b8_in _ | (unfold pm_inI; split <;> omega)) (fun h6 => ?_) (fun h6 => ?_)
              · replace h6 : (c : Int) < 31 := h6
                omega
              · replace h6 : ¬ ((c : Int) < 31) := h6
                refine g_aload_n lk_63_54 rfl ?_
                refine g_iconst lk_63_55 ?_
                refine g_virtual (p := 2) (Qc := _) lk_63_56 rfl (Nat.le_of_ble_eq_true rfl) rfl rfl (lay.on (by decide) rfl) (Nat.le_of_ble_eq_true rfl) (Nat.le_of_ble_eq_true rfl) (Nat.zero_le _) (Nat.zero_le _) (rf5) ?_
                rintro _ K1 ⟨rfl, lay1, re1, ft1⟩
                show Wp _ 63 59 [(2, ((2 : Nat) : Int)), (2, ((20 : Nat) : Int)), (0, (dd : Int)), (9, 0), (9, 0), (9, 0)] [(0, 0)] K1 _ _ _
                refine g_ireturn lk_63_59 (fun _ => by omega) ?_
                exact ⟨lay1, re1.nd, rfl, ft1⟩
          · replace h4 : ¬ ((w : Int) = 1) := h4
            refine g_aload_n lk_63_25 rfl ?_
            refine m_getfield (u := []) (M := M) lk_63_26 rfl (lay.on (by decide) rfl) (v := (w : Int)) f13' ?_
            refine g_iconst lk_63_29 ?_
            refine g_icmp (t := 39) lk_63_30 rfl (by first | (unfold pm_inI; omega) | exact pm_and_in _ _ | exact pm_shr_in _ _ | exact pm_or_in _ _ | exact pm_xor_in _ _ | exact pm_shl_in _ _ | exact pm_cmp_in _ _ | exact pm_b8_in _ | (unfold pm_inI; split <;> omega)) (by first | (unfold pm_inI; omega) | exact pm_and_in _ _ | exact pm_shr_in _ _ | exact pm_or_in _ _ | exact pm_xor_in _ _ | exact pm_shl_in _ _ | exact pm_cmp_in _ _ | exact pm_b8_in _ | (unfold pm_inI; split <;> omega)) (fun h7 => ?_) (fun h7 => ?_)
            · replace h7 : (w : Int) = 2 := h7
              refine g_iload_n lk_63_39 rfl ?_
              refine g_bipush lk_63_40 ?_
              refine g_icmp (t := 54) lk_63_42 rfl (by first | (unfold pm_inI; omega) | exact pm_and_in _ _ | exact pm_shr_in _ _ | exact pm_or_in _ _ | exact pm_xor_in _ _ | exact pm_shl_in _ _ | exact pm_cmp_in _ _ | exact pm_b8_in _ | (unfold pm_inI; split <;> omega)) (by first | (unfold pm_inI; omega) | exact pm_and_in _ _ | exact pm_shr_in _ _ | exact pm_or_in _ _ | exact pm_xor_in _ _ | exact pm_shl_in _ _ | exact pm_cmp_in _ _ | exact pm_b8_in _ | (unfold pm_inI; split <;> omega)) (fun h8 => ?_) (fun h8 => ?_)
              · replace h8 : 9 ≤ (dd : Int) := h8
                refine g_aload_n lk_63_54 rfl ?_
                refine g_iconst lk_63_55 ?_
                refine g_virtual (p := 2) (Qc := _) lk_63_56 rfl (Nat.le_of_ble_eq_true rfl) rfl rfl (lay.on (by decide) rfl) (Nat.le_of_ble_eq_true rfl) (Nat.le_of_ble_eq_true rfl) (Nat.zero_le _) (Nat.zero_le _) (rf5) ?_
                rintro _ K1 ⟨rfl, lay1, re1, ft1⟩
                show Wp _ 63 59 [(2, ((2 : Nat) : Int)), (2, ((20 : Nat) : Int)), (0, (dd : Int)), (9, 0), (9, 0), (9, 0)] [(0, 0)] K1 _ _ _
                refine g_ireturn lk_63_59 (fun _ => by omega) ?_
                exact ⟨lay1, re1.nd, rfl, ft1⟩
              · replace h8 : ¬ (9 ≤ (dd : Int)) := h8
                refine g_aload_n lk_63_45 rfl ?_
                refine m_getfield (u := []) (M := M) lk_63_46 rfl (lay.on (by decide) rfl) (v := (c : Int)) hc ?_
                refine g_bipush lk_63_49 ?_
                refine g_icmp (t := 60) lk_63_51 rfl (by first | (unfold pm_inI; omega) | exact pm_and_in _ _ | exact pm_shr_in _ _ | exact pm_or_in _ _ | exact pm_xor_in _ _ | exact pm_shl_in _ _ | exact pm_cmp_in _ _ | exact pm_b8_in _ | (unfold pm_inI; split <;> omega)) (by first | (unfold pm_inI; omega) | exact pm_and_in _ _ | exact pm_shr_in _ _ | exact pm_or_in _ _ | exact pm_xor_in _ _ | exact pm_shl_in _ _ | exact pm_cmp_in _ _ | exact pm_b8_in _ | (unfold pm_inI; split <;> omega)) (fun h9 => ?_) (fun h9 => ?_)
                · replace h9 : (c : Int) < 31 := h9
                  omega
                · replace h9 : ¬ ((c : Int) < 31) := h9
                  refine g_aload_n lk_63_54 rfl ?_
                  refine g_iconst lk_63_55 ?_
                  refine g_virtual (p := 2) (Qc := _) lk_63_56 rfl (Nat.le_of_ble_eq_true rfl) rfl rfl (lay.on (by decide) rfl) (Nat.le_of_ble_eq_true rfl) (Nat.le_of_ble_eq_true rfl) (Nat.zero_le _) (Nat.zero_le _) (rf5) ?_
                  rintro _ K1 ⟨rfl, lay1, re1, ft1⟩
                  show Wp _ 63 59 [(2, ((2 : Nat) : Int)), (2, ((20 : Nat) : Int)), (0, (dd : Int)), (9, 0), (9, 0), (9, 0)] [(0, 0)] K1 _ _ _
                  refine g_ireturn lk_63_59 (fun _ => by omega) ?_
                  exact ⟨lay1, re1.nd, rfl, ft1⟩
            · replace h7 : ¬ ((w : Int) = 2) := h7
              omega
      · have c30 : c < 31 := by omega
        have d8 : dd < 9 := by omega
        by_cases g : twd ch t = wLeaf
        · have f13x : pm_ct M 2 13 = 239874 := by rw [f13']; exact w5.mpr g
          have rl := c_Reader_readLeaf3 (d := d) (mc := 0) (ms := 0) lay hM hT hK hc c30
          clear ih w1 w2 w3 w4 w5
          cases hp : pNum ch 0 (lxt ch n t.2.2) with
          | inl e =>
            rw [pN_lf0 a b g hp]
            rw [hp] at rl
            refine g_aload_n lk_63_0 rfl ?_
            refine m_getfield (u := []) (M := M) lk_63_1 rfl (lay.on (by decide) rfl) (v := 1) f10' ?_
            refine g_iconst lk_63_4 ?_
            refine g_icmp (t := 33) lk_63_5 rfl (by first | (unfold pm_inI; omega) | exact pm_and_in _ _ | exact pm_shr_in _ _ | exact pm_or_in _ _ | exact pm_xor_in _ _ | exact pm_shl_in _ _ | exact pm_cmp_in _ _ | exact pm_b8_in _ | (unfold pm_inI; split <;> omega)) (by first | (unfold pm_inI; omega) | exact pm_and_in _ _ | exact pm_shr_in _ _ | exact pm_or_in _ _ | exact pm_xor_in _ _ | exact pm_shl_in _ _ | exact pm_cmp_in _ _ | exact pm_b8_in _ | (unfold pm_inI; split <;> omega)) (fun h => absurd h (show ¬ (¬ (1 : Int) = (1 : Int)) by omega)) (fun _ => ?_)
            refine g_aload_n lk_63_8 rfl ?_
            refine m_getfield (u := []) (M := M) lk_63_9 rfl (lay.on (by decide) rfl) (v := 239874) f13x ?_
            refine g_ldc lk_63_12 ?_
            refine g_icmp (t := 39) lk_63_14 rfl (by first | (unfold pm_inI; omega) | exact pm_and_in _ _ | exact pm_shr_in _ _ | exact pm_or_in _ _ | exact pm_xor_in _ _ | exact pm_shl_in _ _ | exact pm_cmp_in _ _ | exact pm_b8_in _ | (unfold pm_inI; split <;> omega)) (by first | (unfold pm_inI; omega) | exact pm_and_in _ _ | exact pm_shr_in _ _ | exact pm_or_in _ _ | exact pm_xor_in _ _ | exact pm_shl_in _ _ | exact pm_cmp_in _ _ | exact pm_b8_in _ | (unfold pm_inI; split <;> omega)) (fun _ => ?_) (fun h => absurd (show (239874 : Int) = (239874 : Int) by omega) h)
            refine g_iload_n lk_63_39 rfl ?_
            refine g_bipush lk_63_40 ?_
            refine g_icmp (t := 54) lk_63_42 rfl (by first | (unfold pm_inI; omega) | exact pm_and_in _ _ | exact pm_shr_in _ _ | exact pm_or_in _ _ | exact pm_xor_in _ _ | exact pm_shl_in _ _ | exact pm_cmp_in _ _ | exact pm_b8_in _ | (unfold pm_inI; split <;> omega)) (by first | (unfold pm_inI; omega) | exact pm_and_in _ _ | exact pm_shr_in _ _ | exact pm_or_in _ _ | exact pm_xor_in _ _ | exact pm_shl_in _ _ | exact pm_cmp_in _ _ | exact pm_b8_in _ | (unfold pm_inI; split <;> omega)) (fun h1 => ?_) (fun h1 => ?_)
            · replace h1 : 9 ≤ (dd : Int) := h1
              omega
            · replace h1 : ¬ (9 ≤ (dd : Int)) := h1
              refine g_aload_n lk_63_45 rfl ?_
              refine m_getfield (u := []) (M := M) lk_63_46 rfl (lay.on (by decide) rfl) (v := (c : Int)) hc ?_
              refine g_bipush lk_63_49 ?_
              refine g_icmp (t := 60) lk_63_51 rfl (by first | (unfold pm_inI; omega) | exact pm_and_in _ _ | exact pm_shr_in _ _ | exact pm_or_in _ _ | exact pm_xor_in _ _ | exact pm_shl_in _ _ | exact pm_cmp_in _ _ | exact pm_b8_in _ | (unfold pm_inI; split <;> omega)) (by first | (unfold pm_inI; omega) | exact pm_and_in _ _ | exact pm_shr_in _ _ | exact pm_or_in _ _ | exact pm_xor_in _ _ | exact pm_shl_in _ _ | exact pm_cmp_in _ _ | exact pm_b8_in _ | (unfold pm_inI; split <;> omega)) (fun h2 => ?_) (fun h2 => ?_)
              · replace h2 : (c : Int) < 31 := h2
                refine g_aload_n lk_63_60 rfl ?_
                refine m_getfield (u := []) (M := M) lk_63_61 rfl (lay.on (by decide) rfl) (v := 239874) f13x ?_
                refine g_ldc lk_63_64 ?_
                refine g_icmp (t := 75) lk_63_66 rfl (by first | (unfold pm_inI; omega) | exact pm_and_in _ _ | exact pm_shr_in _ _ | exact pm_or_in _ _ | exact pm_xor_in _ _ | exact pm_shl_in _ _ | exact pm_cmp_in _ _ | exact pm_b8_in _ | (unfold pm_inI; split <;> omega)) (by first | (unfold pm_inI; omega) | exact pm_and_in _ _ | exact pm_shr_in _ _ | exact pm_or_in _ _ | exact pm_xor_in _ _ | exact pm_shl_in _ _ | exact pm_cmp_in _ _ | exact pm_b8_in _ | (unfold pm_inI; split <;> omega)) (fun h => absurd h (show ¬ (¬ (239874 : Int) = (239874 : Int)) by omega)) (fun _ => ?_)
                refine g_aload_n lk_63_69 rfl ?_
                refine g_aload_n lk_63_70 rfl ?_
                refine g_virtual (p := 2) (Qc := _) lk_63_71 rfl (Nat.le_of_ble_eq_true rfl) rfl rfl (lay.on (by decide) rfl) (Nat.le_of_ble_eq_true rfl) (Nat.le_of_ble_eq_true rfl) (Nat.zero_le _) (Nat.zero_le _) (rl) ?_
                rintro _ K1 ⟨lay1, nf1, rfl, ft1⟩
                show Wp _ 63 74 [(2, ((2 : Nat) : Int)), (2, ((20 : Nat) : Int)), (0, (dd : Int)), (9, 0), (9, 0), (9, 0)] [(0, 0)] K1 _ _ _
                refine g_ireturn lk_63_74 (fun _ => by omega) ?_
                exact ⟨lay1, nf1, rfl, ft1⟩
              · replace h2 : ¬ ((c : Int) < 31) := h2
                omega
          | inr v =>
            rw [pN_lf1 a b g hp]
            rw [hp] at rl
            refine g_aload_n lk_63_0 rfl ?_
            refine m_getfield (u := []) (M := M) lk_63_1 rfl (lay.on (by decide) rfl) (v := 1) f10' ?_
            refine g_iconst lk_63_4 ?_
            refine g_icmp (t := 33) lk_63_5 rfl (by first | (unfold pm_inI; omega) | exact pm_and_in _ _ | exact pm_shr_in _ _ | exact pm_or_in _ _ | exact pm_xor_in _ _ | exact pm_shl_in _ _ | exact pm_cmp_in _ _ | exact pm_b8_in _ | (unfold pm_inI; split <;> omega)) (by first | (unfold pm_inI; omega) | exact pm_and_in _ _ | exact pm_shr_in _ _ | exact pm_or_in _ _ | exact pm_xor_in _ _ | exact pm_shl_in _ _ | exact pm_cmp_in _ _ | exact pm_b8_in _ | (unfold pm_inI; split <;> omega)) (fun h => absurd h (show ¬ (¬ (1 : Int) = (1 : Int)) by omega)) (fun _ => ?_)
            refine g_aload_n lk_63_8 rfl ?_
            refine m_getfield (u := []) (M := M) lk_63_9 rfl (lay.on (by decide) rfl) (v := 239874) f13x ?_
            refine g_ldc lk_63_12 ?_
            refine g_icmp (t := 39) lk_63_14 rfl (by first | (unfold pm_inI; omega) | exact pm_and_in _ _ | exact pm_shr_in _ _ | exact pm_or_in _ _ | exact pm_xor_in _ _ | exact pm_shl_in _ _ | exact pm_cmp_in _ _ | exact pm_b8_in _ | (unfold pm_inI; split <;> omega)) (by first | (unfold pm_inI; omega) | exact pm_and_in _ _ | exact pm_shr_in _ _ | exact pm_or_in _ _ | exact pm_xor_in _ _ | exact pm_shl_in _ _ | exact pm_cmp_in _ _ | exact pm_b8_in _ | (unfold pm_inI; split <;> omega)) (fun _ => ?_) (fun h => absurd (show (239874 : Int) = (239874 : Int) by omega) h)
            refine g_iload_n lk_63_39 rfl ?_
            refine g_bipush lk_63_40 ?_
            refine g_icmp (t := 54) lk_63_42 rfl (by first | (unfold pm_inI; omega) | exact pm_and_in _ _ | exact pm_shr_in _ _ | exact pm_or_in _ _ | exact pm_xor_in _ _ | exact pm_shl_in _ _ | exact pm_cmp_in _ _ | exact pm_b8_in _ | (unfold pm_inI; split <;> omega)) (by first | (unfold pm_inI; omega) | exact pm_and_in _ _ | exact pm_shr_in _ _ | exact pm_or_in _ _ | exact pm_xor_in _ _ | exact pm_shl_in _ _ | exact pm_cmp_in _ _ | exact pm_b8_in _ | (unfold pm_inI; split <;> omega)) (fun h1 => ?_) (fun h1 => ?_)
            · replace h1 : 9 ≤ (dd : Int) := h1
              omega
            · replace h1 : ¬ (9 ≤ (dd : Int)) := h1
              refine g_aload_n lk_63_45 rfl ?_
              refine m_getfield (u := []) (M := M) lk_63_46 rfl (lay.on (by decide) rfl) (v := (c : Int)) hc ?_
              refine g_bipush lk_63_49 ?_
              refine g_icmp (t := 60) lk_63_51 rfl (by first | (unfold pm_inI; omega) | exact pm_and_in _ _ | exact pm_shr_in _ _ | exact pm_or_in _ _ | exact pm_xor_in _ _ | exact pm_shl_in _ _ | exact pm_cmp_in _ _ | exact pm_b8_in _ | (unfold pm_inI; split <;> omega)) (by first | (unfold pm_inI; omega) | exact pm_and_in _ _ | exact pm_shr_in _ _ | exact pm_or_in _ _ | exact pm_xor_in _ _ | exact pm_shl_in _ _ | exact pm_cmp_in _ _ | exact pm_b8_in _ | (unfold pm_inI; split <;> omega)) (fun h2 => ?_) (fun h2 => ?_)
              · replace h2 : (c : Int) < 31 := h2
                refine g_aload_n lk_63_60 rfl ?_
                refine m_getfield (u := []) (M := M) lk_63_61 rfl (lay.on (by decide) rfl) (v := 239874) f13x ?_
                refine g_ldc lk_63_64 ?_
                refine g_icmp (t := 75) lk_63_66 rfl (by first | (unfold pm_inI; omega) | exact pm_and_in _ _ | exact pm_shr_in _ _ | exact pm_or_in _ _ | exact pm_xor_in _ _ | exact pm_shl_in _ _ | exact pm_cmp_in _ _ | exact pm_b8_in _ | (unfold pm_inI; split <;> omega)) (by first | (unfold pm_inI; omega) | exact pm_and_in _ _ | exact pm_shr_in _ _ | exact pm_or_in _ _ | exact pm_xor_in _ _ | exact pm_shl_in _ _ | exact pm_cmp_in _ _ | exact pm_b8_in _ | (unfold pm_inI; split <;> omega)) (fun h => absurd h (show ¬ (¬ (239874 : Int) = (239874 : Int)) by omega)) (fun _ => ?_)
                refine g_aload_n lk_63_69 rfl ?_
                refine g_aload_n lk_63_70 rfl ?_
                refine g_virtual (p := 2) (Qc := _) lk_63_71 rfl (Nat.le_of_ble_eq_true rfl) rfl rfl (lay.on (by decide) rfl) (Nat.le_of_ble_eq_true rfl) (Nat.le_of_ble_eq_true rfl) (Nat.zero_le _) (Nat.zero_le _) (rl) ?_
                rintro _ K1 ⟨lay1, nf1, rfl, x1⟩
                show Wp _ 63 74 [(2, ((2 : Nat) : Int)), (2, ((20 : Nat) : Int)), (0, (dd : Int)), (9, 0), (9, 0), (9, 0)] [(0, 1)] K1 _ _ _
                refine g_ireturn lk_63_74 (fun _ => by omega) ?_
                exact ⟨lay1, nf1, rfl, x1⟩
              · replace h2 : ¬ ((c : Int) < 31) := h2
                omega
        · have u1 := (lxt_ok (ch := ch) hK.2.2.1 n5).1
          have u2 := (lxt_ok (ch := ch) u1.2.2.1 n5).1
          have ad := c_Reader_advance (d := d + 1) (mc := 0) (ms := 0) lay hM hT.2.2.2.1 hK.2.2.1
          by_cases y : twd ch t = wdA
          · have em : (if twd ch t = wdA then R else C) = R := if_pos y
            have ex : (if twd ch t = wdA then 1 else 2) = 1 := if_pos y
            have f13x : pm_ct M 2 13 = 1 := by rw [f13']; exact w1.mpr y
            cases hp : pSet ch (if twd ch t = wdA then R else C) (lxt ch n t.2.2) with
            | inl e =>
              rw [pN_nd0 a b g hp]
              rw [em] at hp
              clear ih w1 w2 w3 w4 w5
              refine g_aload_n lk_63_0 rfl ?_
              refine m_getfield (u := []) (M := M) lk_63_1 rfl (lay.on (by decide) rfl) (v := 1) f10' ?_
              refine g_iconst lk_63_4 ?_
              refine g_icmp (t := 33) lk_63_5 rfl (by first | (unfold pm_inI; omega) | exact pm_and_in _ _ | exact pm_shr_in _ _ | exact pm_or_in _ _ | exact pm_xor_in _ _ | exact pm_shl_in _ _ | exact pm_cmp_in _ _ | exact pm_b8_in _ | (unfold pm_inI; split <;> omega)) (by first | (unfold pm_inI; omega) | exact pm_and_in _ _ | exact pm_shr_in _ _ | exact pm_or_in _ _ | exact pm_xor_in _ _ | exact pm_shl_in _ _ | exact pm_cmp_in _ _ | exact pm_b8_in _ | (unfold pm_inI; split <;> omega)) (fun h => absurd h (show ¬ (¬ (1 : Int) = (1 : Int)) by omega)) (fun _ => ?_)
              refine g_aload_n lk_63_8 rfl ?_
              refine m_getfield (u := []) (M := M) lk_63_9 rfl (lay.on (by decide) rfl) (v := 1) f13x ?_
              refine g_ldc lk_63_12 ?_
              refine g_icmp (t := 39) lk_63_14 rfl (by first | (unfold pm_inI; omega) | exact pm_and_in _ _ | exact pm_shr_in _ _ | exact pm_or_in _ _ | exact pm_xor_in _ _ | exact pm_shl_in _ _ | exact pm_cmp_in _ _ | exact pm_b8_in _ | (unfold pm_inI; split <;> omega)) (by first | (unfold pm_inI; omega) | exact pm_and_in _ _ | exact pm_shr_in _ _ | exact pm_or_in _ _ | exact pm_xor_in _ _ | exact pm_shl_in _ _ | exact pm_cmp_in _ _ | exact pm_b8_in _ | (unfold pm_inI; split <;> omega)) (fun h => absurd h (show ¬ ((1 : Int) = (239874 : Int)) by omega)) (fun _ => ?_)
              refine g_aload_n lk_63_17 rfl ?_
              refine m_getfield (u := []) (M := M) lk_63_18 rfl (lay.on (by decide) rfl) (v := 1) f13x ?_
              refine g_iconst lk_63_21 ?_
              refine g_icmp (t := 39) lk_63_22 rfl (by first | (unfold pm_inI; omega) | exact pm_and_in _ _ | exact pm_shr_in _ _ | exact pm_or_in _ _ | exact pm_xor_in _ _ | exact pm_shl_in _ _ | exact pm_cmp_in _ _ | exact pm_b8_in _ | (unfold pm_inI; split <;> omega)) (by first | (unfold pm_inI; omega) | exact pm_and_in _ _ | exact pm_shr_in _ _ | exact pm_or_in _ _ | exact pm_xor_in _ _ | exact pm_shl_in _ _ | exact pm_cmp_in _ _ | exact pm_b8_in _ | (unfold pm_inI; split <;> omega)) (fun _ => ?_) (fun h => absurd (show (1 : Int) = (1 : Int) by omega) h)
              refine g_iload_n lk_63_39 rfl ?_
              refine g_bipush lk_63_40 ?_
              refine g_icmp (t := 54) lk_63_42 rfl (by first | (unfold pm_inI; omega) | exact pm_and_in _ _ | exact pm_shr_in _ _ | exact pm_or_in _ _ | exact pm_xor_in _ _ | exact pm_shl_in _ _ | exact pm_cmp_in _ _ | exact pm_b8_in _ | (unfold pm_inI; split <;> omega)) (by first | (unfold pm_inI; omega) | exact pm_and_in _ _ | exact pm_shr_in _ _ | exact pm_or_in _ _ | exact pm_xor_in _ _ | exact pm_shl_in _ _ | exact pm_cmp_in _ _ | exact pm_b8_in _ | (unfold pm_inI; split <;> omega)) (fun h1 => ?_) (fun h1 => ?_)
              · replace h1 : 9 ≤ (dd : Int) := h1
                omega
              · replace h1 : ¬ (9 ≤ (dd : Int)) := h1
                refine g_aload_n lk_63_45 rfl ?_
                refine m_getfield (u := []) (M := M) lk_63_46 rfl (lay.on (by decide) rfl) (v := (c : Int)) hc ?_
                refine g_bipush lk_63_49 ?_
                refine g_icmp (t := 60) lk_63_51 rfl (by first | (unfold pm_inI; omega) | exact pm_and_in _ _ | exact pm_shr_in _ _ | exact pm_or_in _ _ | exact pm_xor_in _ _ | exact pm_shl_in _ _ | exact pm_cmp_in _ _ | exact pm_b8_in _ | (unfold pm_inI; split <;> omega)) (by first | (unfold pm_inI; omega) | exact pm_and_in _ _ | exact pm_shr_in _ _ | exact pm_or_in _ _ | exact pm_xor_in _ _ | exact pm_shl_in _ _ | exact pm_cmp_in _ _ | exact pm_b8_in _ | (unfold pm_inI; split <;> omega)) (fun h2 => ?_) (fun h2 => ?_)
                · replace h2 : (c : Int) < 31 := h2
                  refine g_aload_n lk_63_60 rfl ?_
                  refine m_getfield (u := []) (M := M) lk_63_61 rfl (lay.on (by decide) rfl) (v := 1) f13x ?_
                  refine g_ldc lk_63_64 ?_
                  refine g_icmp (t := 75) lk_63_66 rfl (by first | (unfold pm_inI; omega) | exact pm_and_in _ _ | exact pm_shr_in _ _ | exact pm_or_in _ _ | exact pm_xor_in _ _ | exact pm_shl_in _ _ | exact pm_cmp_in _ _ | exact pm_b8_in _ | (unfold pm_inI; split <;> omega)) (by first | (unfold pm_inI; omega) | exact pm_and_in _ _ | exact pm_shr_in _ _ | exact pm_or_in _ _ | exact pm_xor_in _ _ | exact pm_shl_in _ _ | exact pm_cmp_in _ _ | exact pm_b8_in _ | (unfold pm_inI; split <;> omega)) (fun _ => ?_) (fun h => absurd (show ¬ (1 : Int) = (239874 : Int) by omega) h)
                  refine g_aload_n lk_63_75 rfl ?_
                  refine m_getfield (u := []) (M := M) lk_63_76 rfl (lay.on (by decide) rfl) (v := 1) f13x ?_
                  refine g_iconst lk_63_79 ?_
                  refine g_icmp (t := 87) lk_63_80 rfl (by first | (unfold pm_inI; omega) | exact pm_and_in _ _ | exact pm_shr_in _ _ | exact pm_or_in _ _ | exact pm_xor_in _ _ | exact pm_shl_in _ _ | exact pm_cmp_in _ _ | exact pm_b8_in _ | (unfold pm_inI; split <;> omega)) (by first | (unfold pm_inI; omega) | exact pm_and_in _ _ | exact pm_shr_in _ _ | exact pm_or_in _ _ | exact pm_xor_in _ _ | exact pm_shl_in _ _ | exact pm_cmp_in _ _ | exact pm_b8_in _ | (unfold pm_inI; split <;> omega)) (fun h => absurd h (show ¬ (¬ (1 : Int) = (1 : Int)) by omega)) (fun _ => ?_)
                  refine g_iconst lk_63_83 ?_
                  refine g_goto (t := 88) lk_63_84 rfl ?_
                  refine g_istore_n (ls' := [(2, ((2 : Nat) : Int)), (2, ((20 : Nat) : Int)), (0, (dd : Int)), (0, 1), (9, 0), (9, 0)]) lk_63_88 rfl rfl ?_
                  refine g_aload_n lk_63_89 rfl ?_
                  refine g_virtual (p := 2) (Qc := _) lk_63_90 rfl (Nat.le_of_ble_eq_true rfl) rfl rfl (lay.on (by decide) rfl) (Nat.le_of_ble_eq_true rfl) (Nat.le_of_ble_eq_true rfl) (Nat.zero_le _) (Nat.zero_le _) (ad) ?_
                  rintro _ K1 ⟨rfl, lay1, rd1, tk1⟩
                  have f4 : pm_ct K1 4 1 = (R : Int) := (by rw [rd1.1.ct (by decide)]; exact hR)
                  have hc1 : pm_ct K1 20 3 = (c : Int) := (by rw [rd1.1.ct (by decide)]; exact hc)
                  show Wp _ 63 93 [(2, ((2 : Nat) : Int)), (2, ((20 : Nat) : Int)), (0, (dd : Int)), (0, 1), (9, 0), (9, 0)] [] K1 _ _ _
                  refine g_aload_n lk_63_93 rfl ?_
                  refine g_iload_n lk_63_94 rfl ?_
                  refine g_if (t := 108) lk_63_95 rfl (by first | (unfold pm_inI; omega) | exact pm_and_in _ _ | exact pm_shr_in _ _ | exact pm_or_in _ _ | exact pm_xor_in _ _ | exact pm_shl_in _ _ | exact pm_cmp_in _ _ | exact pm_b8_in _ | (unfold pm_inI; split <;> omega)) (fun h => absurd h (show ¬ ((1 : Int) = (0 : Int)) by omega)) (fun _ => ?_)
                  refine g_aload_n lk_63_98 rfl ?_
                  refine g_getfield lk_63_99 rfl (lay1.on (by decide) rfl) (v := ((4 : Nat) : Int)) (lay1.rf rfl) ?_
                  refine m_getfield (u := []) (M := K1) lk_63_102 rfl (lay1.on (by decide) rfl) (v := (R : Int)) f4 ?_
                  refine g_goto (t := 115) lk_63_105 rfl ?_
                  refine g_virtual (p := 2) (Qc := _) lk_63_115 rfl (Nat.le_of_ble_eq_true rfl) rfl rfl (lay1.on (by decide) rfl) (Nat.le_of_ble_eq_true rfl) (Nat.le_of_ble_eq_true rfl) (Nat.zero_le _) (Nat.zero_le _) (c_Reader_readSet (d := d + 1) (mc := 0) (ms := 0) lay1 (hM.rd rd1) tk1 u1 r6) ?_
                  rintro ρ2 K2 ⟨lay2, re2, o2⟩
                  obtain ⟨rfl, ft2⟩ := set_inl hp o2
                  show Wp _ 63 118 [(2, ((2 : Nat) : Int)), (2, ((20 : Nat) : Int)), (0, (dd : Int)), (0, 1), (9, 0), (9, 0)] [(0, 0)] K2 _ _ _
                  refine g_istore (ls' := [(2, ((2 : Nat) : Int)), (2, ((20 : Nat) : Int)), (0, (dd : Int)), (0, 1), (0, 0), (9, 0)]) lk_63_118 rfl rfl ?_
                  refine g_iload lk_63_120 rfl ?_
                  refine g_if (t := 127) lk_63_122 rfl (by first | (unfold pm_inI; omega) | exact pm_and_in _ _ | exact pm_shr_in _ _ | exact pm_or_in _ _ | exact pm_xor_in _ _ | exact pm_shl_in _ _ | exact pm_cmp_in _ _ | exact pm_b8_in _ | (unfold pm_inI; split <;> omega)) (fun h => absurd h (show ¬ (¬ (0 : Int) = (0 : Int)) by omega)) (fun _ => ?_)
                  refine g_iconst lk_63_125 ?_
                  refine g_ireturn lk_63_126 (fun _ => by omega) ?_
                  exact ⟨lay2, rd1.re.nd.trans re2.nd, rfl, ft2⟩
                · replace h2 : ¬ ((c : Int) < 31) := h2
                  omega
            | inr s =>
              cases k1 : pN ch n R C f (dd + 1) (c + 1) c (lxt ch n (lxt ch n t.2.2).2.2) with
              | inl e =>
                rw [pN_nd1 a b g hp k1]
                rw [em] at hp
                clear w1 w2 w3 w4 w5
                refine g_aload_n lk_63_0 rfl ?_
                refine m_getfield (u := []) (M := M) lk_63_1 rfl (lay.on (by decide) rfl) (v := 1) f10' ?_
                refine g_iconst lk_63_4 ?_
                refine g_icmp (t := 33) lk_63_5 rfl (by first | (unfold pm_inI; omega) | exact pm_and_in _ _ | exact pm_shr_in _ _ | exact pm_or_in _ _ | exact pm_xor_in _ _ | exact pm_shl_in _ _ | exact pm_cmp_in _ _ | exact pm_b8_in _ | (unfold pm_inI; split <;> omega)) (by first | (unfold pm_inI; omega) | exact pm_and_in _ _ | exact pm_shr_in _ _ | exact pm_or_in _ _ | exact pm_xor_in _ _ | exact pm_shl_in _ _ | exact pm_cmp_in _ _ | exact pm_b8_in _ | (unfold pm_inI; split <;> omega)) (fun h => absurd h (show ¬ (¬ (1 : Int) = (1 : Int)) by omega)) (fun _ => ?_)
                refine g_aload_n lk_63_8 rfl ?_
                refine m_getfield (u := []) (M := M) lk_63_9 rfl (lay.on (by decide) rfl) (v := 1) f13x ?_
                refine g_ldc lk_63_12 ?_
                refine g_icmp (t := 39) lk_63_14 rfl (by first | (unfold pm_inI; omega) | exact pm_and_in _ _ | exact pm_shr_in _ _ | exact pm_or_in _ _ | exact pm_xor_in _ _ | exact pm_shl_in _ _ | exact pm_cmp_in _ _ | exact pm_b8_in _ | (unfold pm_inI; split <;> omega)) (by first | (unfold pm_inI; omega) | exact pm_and_in _ _ | exact pm_shr_in _ _ | exact pm_or_in _ _ | exact pm_xor_in _ _ | exact pm_shl_in _ _ | exact pm_cmp_in _ _ | exact pm_b8_in _ | (unfold pm_inI; split <;> omega)) (fun h => absurd h (show ¬ ((1 : Int) = (239874 : Int)) by omega)) (fun _ => ?_)
                refine g_aload_n lk_63_17 rfl ?_
                refine m_getfield (u := []) (M := M) lk_63_18 rfl (lay.on (by decide) rfl) (v := 1) f13x ?_
                refine g_iconst lk_63_21 ?_
                refine g_icmp (t := 39) lk_63_22 rfl (by first | (unfold pm_inI; omega) | exact pm_and_in _ _ | exact pm_shr_in _ _ | exact pm_or_in _ _ | exact pm_xor_in _ _ | exact pm_shl_in _ _ | exact pm_cmp_in _ _ | exact pm_b8_in _ | (unfold pm_inI; split <;> omega)) (by first | (unfold pm_inI; omega) | exact pm_and_in _ _ | exact pm_shr_in _ _ | exact pm_or_in _ _ | exact pm_xor_in _ _ | exact pm_shl_in _ _ | exact pm_cmp_in _ _ | exact pm_b8_in _ | (unfold pm_inI; split <;> omega)) (fun _ => ?_) (fun h => absurd (show (1 : Int) = (1 : Int) by omega) h)
                refine g_iload_n lk_63_39 rfl ?_
                refine g_bipush lk_63_40 ?_
                refine g_icmp (t := 54) lk_63_42 rfl (by first | (unfold pm_inI; omega) | exact pm_and_in _ _ | exact pm_shr_in _ _ | exact pm_or_in _ _ | exact pm_xor_in _ _ | exact pm_shl_in _ _ | exact pm_cmp_in _ _ | exact pm_b8_in _ | (unfold pm_inI; split <;> omega)) (by first | (unfold pm_inI; omega) | exact pm_and_in _ _ | exact pm_shr_in _ _ | exact pm_or_in _ _ | exact pm_xor_in _ _ | exact pm_shl_in _ _ | exact pm_cmp_in _ _ | exact pm_b8_in _ | (unfold pm_inI; split <;> omega)) (fun h1 => ?_) (fun h1 => ?_)
                · replace h1 : 9 ≤ (dd : Int) := h1
                  omega
                · replace h1 : ¬ (9 ≤ (dd : Int)) := h1
                  refine g_aload_n lk_63_45 rfl ?_
                  refine m_getfield (u := []) (M := M) lk_63_46 rfl (lay.on (by decide) rfl) (v := (c : Int)) hc ?_
                  refine g_bipush lk_63_49 ?_
                  refine g_icmp (t := 60) lk_63_51 rfl (by first | (unfold pm_inI; omega) | exact pm_and_in _ _ | exact pm_shr_in _ _ | exact pm_or_in _ _ | exact pm_xor_in _ _ | exact pm_shl_in _ _ | exact pm_cmp_in _ _ | exact pm_b8_in _ | (unfold pm_inI; split <;> omega)) (by first | (unfold pm_inI; omega) | exact pm_and_in _ _ | exact pm_shr_in _ _ | exact pm_or_in _ _ | exact pm_xor_in _ _ | exact pm_shl_in _ _ | exact pm_cmp_in _ _ | exact pm_b8_in _ | (unfold pm_inI; split <;> omega)) (fun h2 => ?_) (fun h2 => ?_)
                  · replace h2 : (c : Int) < 31 := h2
                    refine g_aload_n lk_63_60 rfl ?_
                    refine m_getfield (u := []) (M := M) lk_63_61 rfl (lay.on (by decide) rfl) (v := 1) f13x ?_
                    refine g_ldc lk_63_64 ?_
                    refine g_icmp (t := 75) lk_63_66 rfl (by first | (unfold pm_inI; omega) | exact pm_and_in _ _ | exact pm_shr_in _ _ | exact pm_or_in _ _ | exact pm_xor_in _ _ | exact pm_shl_in _ _ | exact pm_cmp_in _ _ | exact pm_b8_in _ | (unfold pm_inI; split <;> omega)) (by first | (unfold pm_inI; omega) | exact pm_and_in _ _ | exact pm_shr_in _ _ | exact pm_or_in _ _ | exact pm_xor_in _ _ | exact pm_shl_in _ _ | exact pm_cmp_in _ _ | exact pm_b8_in _ | (unfold pm_inI; split <;> omega)) (fun _ => ?_) (fun h => absurd (show ¬ (1 : Int) = (239874 : Int) by omega) h)
                    refine g_aload_n lk_63_75 rfl ?_
                    refine m_getfield (u := []) (M := M) lk_63_76 rfl (lay.on (by decide) rfl) (v := 1) f13x ?_
                    refine g_iconst lk_63_79 ?_
                    refine g_icmp (t := 87) lk_63_80 rfl (by first | (unfold pm_inI; omega) | exact pm_and_in _ _ | exact pm_shr_in _ _ | exact pm_or_in _ _ | exact pm_xor_in _ _ | exact pm_shl_in _ _ | exact pm_cmp_in _ _ | exact pm_b8_in _ | (unfold pm_inI; split <;> omega)) (by first | (unfold pm_inI; omega) | exact pm_and_in _ _ | exact pm_shr_in _ _ | exact pm_or_in _ _ | exact pm_xor_in _ _ | exact pm_shl_in _ _ | exact pm_cmp_in _ _ | exact pm_b8_in _ | (unfold pm_inI; split <;> omega)) (fun h => absurd h (show ¬ (¬ (1 : Int) = (1 : Int)) by omega)) (fun _ => ?_)
                    refine g_iconst lk_63_83 ?_
                    refine g_goto (t := 88) lk_63_84 rfl ?_
                    refine g_istore_n (ls' := [(2, ((2 : Nat) : Int)), (2, ((20 : Nat) : Int)), (0, (dd : Int)), (0, 1), (9, 0), (9, 0)]) lk_63_88 rfl rfl ?_
                    refine g_aload_n lk_63_89 rfl ?_
                    refine g_virtual (p := 2) (Qc := _) lk_63_90 rfl (Nat.le_of_ble_eq_true rfl) rfl rfl (lay.on (by decide) rfl) (Nat.le_of_ble_eq_true rfl) (Nat.le_of_ble_eq_true rfl) (Nat.zero_le _) (Nat.zero_le _) (ad) ?_
                    rintro _ K1 ⟨rfl, lay1, rd1, tk1⟩
                    have f4 : pm_ct K1 4 1 = (R : Int) := (by rw [rd1.1.ct (by decide)]; exact hR)
                    have hc1 : pm_ct K1 20 3 = (c : Int) := (by rw [rd1.1.ct (by decide)]; exact hc)
                    show Wp _ 63 93 [(2, ((2 : Nat) : Int)), (2, ((20 : Nat) : Int)), (0, (dd : Int)), (0, 1), (9, 0), (9, 0)] [] K1 _ _ _
                    refine g_aload_n lk_63_93 rfl ?_
                    refine g_iload_n lk_63_94 rfl ?_
                    refine g_if (t := 108) lk_63_95 rfl (by first | (unfold pm_inI; omega) | exact pm_and_in _ _ | exact pm_shr_in _ _ | exact pm_or_in _ _ | exact pm_xor_in _ _ | exact pm_shl_in _ _ | exact pm_cmp_in _ _ | exact pm_b8_in _ | (unfold pm_inI; split <;> omega)) (fun h => absurd h (show ¬ ((1 : Int) = (0 : Int)) by omega)) (fun _ => ?_)
                    refine g_aload_n lk_63_98 rfl ?_
                    refine g_getfield lk_63_99 rfl (lay1.on (by decide) rfl) (v := ((4 : Nat) : Int)) (lay1.rf rfl) ?_
                    refine m_getfield (u := []) (M := K1) lk_63_102 rfl (lay1.on (by decide) rfl) (v := (R : Int)) f4 ?_
                    refine g_goto (t := 115) lk_63_105 rfl ?_
                    refine g_virtual (p := 2) (Qc := _) lk_63_115 rfl (Nat.le_of_ble_eq_true rfl) rfl rfl (lay1.on (by decide) rfl) (Nat.le_of_ble_eq_true rfl) (Nat.le_of_ble_eq_true rfl) (Nat.zero_le _) (Nat.zero_le _) (c_Reader_readSet (d := d + 1) (mc := 0) (ms := 0) lay1 (hM.rd rd1) tk1 u1 r6) ?_
                    rintro ρ2 K2 ⟨lay2, re2, o2⟩
                    obtain ⟨s1, s2, rfl, eK⟩ := set_inr hp o2
                    rw [eK]
                    show Wp _ 63 118 [(2, ((2 : Nat) : Int)), (2, ((20 : Nat) : Int)), (0, (dd : Int)), (0, 1), (9, 0), (9, 0)] [(0, (s : Int))] K1 _ _ _
                    refine g_istore (ls' := [(2, ((2 : Nat) : Int)), (2, ((20 : Nat) : Int)), (0, (dd : Int)), (0, 1), (0, (s : Int)), (9, 0)]) lk_63_118 rfl rfl ?_
                    refine g_iload lk_63_120 rfl ?_
                    refine g_if (t := 127) lk_63_122 rfl (by first | (unfold pm_inI; omega) | exact pm_and_in _ _ | exact pm_shr_in _ _ | exact pm_or_in _ _ | exact pm_xor_in _ _ | exact pm_shl_in _ _ | exact pm_cmp_in _ _ | exact pm_b8_in _ | (unfold pm_inI; split <;> omega)) (fun h3 => ?_) (fun h3 => ?_)
                    · replace h3 : ¬ (s : Int) = 0 := h3
                      refine g_aload_n lk_63_127 rfl ?_
                      refine g_iload_n lk_63_128 rfl ?_
                      refine g_if (t := 136) lk_63_129 rfl (by first | (unfold pm_inI; omega) | exact pm_and_in _ _ | exact pm_shr_in _ _ | exact pm_or_in _ _ | exact pm_xor_in _ _ | exact pm_shl_in _ _ | exact pm_cmp_in _ _ | exact pm_b8_in _ | (unfold pm_inI; split <;> omega)) (fun h => absurd h (show ¬ ((1 : Int) = (0 : Int)) by omega)) (fun _ => ?_)
                      refine g_iconst lk_63_132 ?_
                      refine g_goto (t := 137) lk_63_133 rfl ?_
                      refine g_iload lk_63_137 rfl ?_
                      refine g_virtual (p := 20) (Qc := _) lk_63_139 rfl (Nat.le_of_ble_eq_true rfl) rfl rfl (lay1.on (by decide) rfl) (Nat.le_of_ble_eq_true rfl) (Nat.le_of_ble_eq_true rfl) (Nat.zero_le _) (Nat.zero_le _) (c_Nodes_addR3 (d := d + 2) (mc := 0) (ms := 0) (x := 1) (y := s) lay1 hc1 c30) ?_
                      rintro _ K3 ⟨rfl, lay3, ax⟩
                      have tc3 := (ax.nd (by omega)).tc (by omega) (hM.rd rd1)
                      have ad3 := c_Reader_advance (d := d + 1) (mc := 0) (ms := 0) lay3 tc3 (ax.tk (by omega) tk1).2.2.2.1 u1.2.2.1
                      show Wp _ 63 142 [(2, ((2 : Nat) : Int)), (2, ((20 : Nat) : Int)), (0, (dd : Int)), (0, 1), (0, (s : Int)), (9, 0)] [(0, (c : Int))] K3 _ _ _
                      refine g_istore (ls' := [(2, ((2 : Nat) : Int)), (2, ((20 : Nat) : Int)), (0, (dd : Int)), (0, 1), (0, (s : Int)), (0, (c : Int))]) lk_63_142 rfl rfl ?_
                      refine g_aload_n lk_63_144 rfl ?_
                      refine g_virtual (p := 2) (Qc := _) lk_63_145 rfl (Nat.le_of_ble_eq_true rfl) rfl rfl (lay3.on (by decide) rfl) (Nat.le_of_ble_eq_true rfl) (Nat.le_of_ble_eq_true rfl) (Nat.zero_le _) (Nat.zero_le _) (ad3) ?_
                      rintro _ K4 ⟨rfl, lay4, rd4, tk4⟩
                      have F4 : NdF 20 M K4 := (rd1.re.nd.trans (ax.nd (by omega))).trans rd4.re.nd
                      have x3 : Blw M K4 20 c := ((rd1.blw (by omega)).trans ax.blw (Nat.le_refl _)).trans (rd4.blw (c := c) (by omega)) (Nat.le_refl _)
                      have x1 : pm_ct K4 21 c = (1 : Int) := (by rw [rd4.1.ct (by decide)]; exact ax.at.1)
                      have x2 : pm_ct K4 22 c = (s : Int) := (by rw [rd4.1.ct (by decide)]; exact ax.at.2.1)
                      have sv4 : Sv M K4 := (rd1.sv.trans (ax.1.sv (by decide))).trans rd4.sv
                      have g4 := ih (d + 2) 0 0 K4 (dd + 1) (c + 1) c _ (by omega) (by omega) (by omega) lay4 (tc3.rd rd4) tk4 u2 (by rw [F4.c (by omega) (Or.inr rfl)]; exact hR) (by rw [F4.c (by omega) (Or.inr rfl)]; exact hC) (by rw [rd4.1.ct (by decide)]; exact ax.2.1) (by omega)
                      rw [k1] at g4
                      show Wp _ 63 148 [(2, ((2 : Nat) : Int)), (2, ((20 : Nat) : Int)), (0, (dd : Int)), (0, 1), (0, (s : Int)), (0, (c : Int))] [] K4 _ _ _
                      refine g_iload lk_63_148 rfl ?_
                      refine g_if (t := 164) lk_63_150 rfl (by first | (unfold pm_inI; omega) | exact pm_and_in _ _ | exact pm_shr_in _ _ | exact pm_or_in _ _ | exact pm_xor_in _ _ | exact pm_shl_in _ _ | exact pm_cmp_in _ _ | exact pm_b8_in _ | (unfold pm_inI; split <;> omega)) (fun h4 => ?_) (fun h4 => ?_)
                      · replace h4 : (c : Int) < 0 := h4
                        refine g_iconst lk_63_164 ?_
                        refine g_ireturn lk_63_165 (fun _ => by omega) ?_
                        first | exact ⟨lay5, F4.trans nf5, rfl, ft5⟩ | (exfalso; omega)
                      · replace h4 : ¬ ((c : Int) < 0) := h4
                        refine g_aload_n lk_63_153 rfl ?_
                        refine g_aload_n lk_63_154 rfl ?_
                        refine g_iload_n lk_63_155 rfl ?_
                        refine g_iconst lk_63_156 ?_
                        refine g_iadd lk_63_157 ?_
                        refine g_virtual (p := 2) (Qc := _) lk_63_158 rfl (Nat.le_of_ble_eq_true rfl) rfl rfl (lay4.on (by decide) rfl) (Nat.le_of_ble_eq_true rfl) (Nat.le_of_ble_eq_true rfl) (Nat.zero_le _) (Nat.zero_le _) (g4) ?_
                        rintro _ K5 ⟨lay5, nf5, rfl, ft5⟩
                        show Wp _ 63 161 [(2, ((2 : Nat) : Int)), (2, ((20 : Nat) : Int)), (0, (dd : Int)), (0, 1), (0, (s : Int)), (0, (c : Int))] [(0, 0)] K5 _ _ _
                        refine g_if (t := 166) lk_63_161 rfl (by first | (unfold pm_inI; omega) | exact pm_and_in _ _ | exact pm_shr_in _ _ | exact pm_or_in _ _ | exact pm_xor_in _ _ | exact pm_shl_in _ _ | exact pm_cmp_in _ _ | exact pm_b8_in _ | (unfold pm_inI; split <;> omega)) (fun h => absurd h (show ¬ (¬ (0 : Int) = (0 : Int)) by omega)) (fun _ => ?_)
                        refine g_iconst lk_63_164 ?_
                        refine g_ireturn lk_63_165 (fun _ => by omega) ?_
                        first | exact ⟨lay5, F4.trans nf5, rfl, ft5⟩ | (exfalso; omega)
                    · replace h3 : ¬ (¬ (s : Int) = 0) := h3
                      refine g_iconst lk_63_125 ?_
                      refine g_ireturn lk_63_126 (fun _ => by omega) ?_
                      first | exact ⟨lay5, F4.trans nf5, rfl, ft5⟩ | (exfalso; omega)
                  · replace h2 : ¬ ((c : Int) < 31) := h2
                    omega
              | inr y1 =>
                obtain ⟨L1, t1⟩ := y1
                obtain ⟨v1, v2, v3⟩ := pN_ok n5 f u2 k1
                have step : ∀ K4 K5 : pm_M, Lay K5 → NdF 20 M K4 → NdF 20 K4 K5 → pm_ct K4 21 c = (1 : Int) → pm_ct K4 22 c = (s : Int) → Blw M K4 20 c → TkX K5 ch t1 → pm_ct K5 20 3 = ((c + 1 + L1.length : Nat) : Int) → SgAt K5 20 (c + 1) (L1.map (fun y => y.1)) → Blw K4 K5 20 (c + 1) → Sv M K5 → Wp (d + 3) 63 166 [(2, ((2 : Nat) : Int)), (2, ((20 : Nat) : Int)), (0, (dd : Int)), (0, 1), (0, (s : Int)), (0, (c : Int))] [] K5 mc ms (fun ρ M' => Lay M' ∧ NdF 20 M M' ∧ ResX ρ M' (fun x => TkX M' ch x.2 ∧ pm_ct M' 20 3 = ((c + x.1.length : Nat) : Int) ∧ SgAt M' 20 c (x.1.map (fun y => y.1)) ∧ Blw M M' 20 c ∧ Sv M M') (pN ch n R C (f + 1) dd c q t)) := by
                  intro K4 K5 lay5 F4 F5 x1 x2 x3 tk5 ct5 sg5 bl5 sv5
                  cases k2 : pN ch n R C f (dd + 1) (c + 1 + L1.length) c t1 with
                  | inl e =>
                    rw [pN_nd2 a b g hp k1 k2]
                    refine g_aload_n lk_63_166 rfl ?_
                    refine g_getfield lk_63_167 rfl (lay5.on (by decide) rfl) (v := ((23 : Nat) : Int)) (lay5.rf rfl) ?_
                    refine g_iload lk_63_170 rfl ?_
                    refine g_aload_n lk_63_172 rfl ?_
                    refine m_getfield (u := []) (M := K5) lk_63_173 rfl (lay5.on (by decide) rfl) (v := ((c + 1 + L1.length : Nat) : Int)) ct5 ?_
                    have lay1 : Lay (Mu [(23, pm_upd (pm_ct K5 23) c ((c + 1 + L1.length : Nat) : Int))] K5) := lay5.muA (l := []) (a := 23) (f := pm_upd (pm_ct K5 23) c ((c + 1 + L1.length : Nat) : Int)) rfl rfl
                    refine m_iastore (u := []) (u' := [(23, pm_upd (pm_ct K5 23) c ((c + 1 + L1.length : Nat) : Int))]) (M := K5) lk_63_176 (lay5.ay (by decide) rfl) (by omega) (j := c) (by omega) rfl ?_
                    refine g_aload_n lk_63_177 rfl ?_
                    refine g_aload_n lk_63_178 rfl ?_
                    refine g_iload_n lk_63_179 rfl ?_
                    refine g_iconst lk_63_180 ?_
                    refine g_iadd lk_63_181 ?_
                    have fM : Fr [23] K5 (Mu [(23, pm_upd (pm_ct K5 23) c ((c + 1 + L1.length : Nat) : Int))] K5) := Fr.mu _ _ rfl
                    have F6 : NdF 20 M (Mu [(23, pm_upd (pm_ct K5 23) c ((c + 1 + L1.length : Nat) : Int))] K5) := (F4.trans F5).trans (Fr.nd3 (P := 20) fM (by omega))
                    have g5 := ih (d + 2) 0 0 (Mu [(23, pm_upd (pm_ct K5 23) c ((c + 1 + L1.length : Nat) : Int))] K5) (dd + 1) (c + 1 + L1.length) c t1 (by omega) (by omega) (by omega) lay1 (F6.tc (by omega) hM) (Fr.tk3 (P := 20) fM (by omega) tk5) v1 (by rw [F6.c (by omega) (Or.inr rfl)]; exact hR) (by rw [F6.c (by omega) (Or.inr rfl)]; exact hC) (by rw [fM.ct (by decide)]; exact ct5) (by omega)
                    rw [k2] at g5
                    refine g_virtual (p := 2) (Qc := _) lk_63_182 rfl (Nat.le_of_ble_eq_true rfl) rfl rfl (lay1.on (by decide) rfl) (Nat.le_of_ble_eq_true rfl) (Nat.le_of_ble_eq_true rfl) (Nat.zero_le _) (Nat.zero_le _) g5 ?_
                    rintro _ K7 ⟨lay7, nf7, rfl, ft7⟩
                    refine g_ireturn lk_63_185 (fun _ => by omega) ?_
                    exact ⟨lay7, F6.trans nf7, rfl, ft7⟩
                  | inr y2 =>
                    obtain ⟨L2, t2⟩ := y2
                    rw [pN_nd3 a b g hp k1 k2, ex]
                    refine g_aload_n lk_63_166 rfl ?_
                    refine g_getfield lk_63_167 rfl (lay5.on (by decide) rfl) (v := ((23 : Nat) : Int)) (lay5.rf rfl) ?_
                    refine g_iload lk_63_170 rfl ?_
                    refine g_aload_n lk_63_172 rfl ?_
                    refine m_getfield (u := []) (M := K5) lk_63_173 rfl (lay5.on (by decide) rfl) (v := ((c + 1 + L1.length : Nat) : Int)) ct5 ?_
                    have lay1 : Lay (Mu [(23, pm_upd (pm_ct K5 23) c ((c + 1 + L1.length : Nat) : Int))] K5) := lay5.muA (l := []) (a := 23) (f := pm_upd (pm_ct K5 23) c ((c + 1 + L1.length : Nat) : Int)) rfl rfl
                    refine m_iastore (u := []) (u' := [(23, pm_upd (pm_ct K5 23) c ((c + 1 + L1.length : Nat) : Int))]) (M := K5) lk_63_176 (lay5.ay (by decide) rfl) (by omega) (j := c) (by omega) rfl ?_
                    refine g_aload_n lk_63_177 rfl ?_
                    refine g_aload_n lk_63_178 rfl ?_
                    refine g_iload_n lk_63_179 rfl ?_
                    refine g_iconst lk_63_180 ?_
                    refine g_iadd lk_63_181 ?_
                    have fM : Fr [23] K5 (Mu [(23, pm_upd (pm_ct K5 23) c ((c + 1 + L1.length : Nat) : Int))] K5) := Fr.mu _ _ rfl
                    have F6 : NdF 20 M (Mu [(23, pm_upd (pm_ct K5 23) c ((c + 1 + L1.length : Nat) : Int))] K5) := (F4.trans F5).trans (Fr.nd3 (P := 20) fM (by omega))
                    have m3 : pm_ct (Mu [(23, pm_upd (pm_ct K5 23) c ((c + 1 + L1.length : Nat) : Int))] K5) 23 = pm_upd (pm_ct K5 23) c ((c + 1 + L1.length : Nat) : Int) := by rw [Mu_ct]; rfl
                    have m1 : pm_ct (Mu [(23, pm_upd (pm_ct K5 23) c ((c + 1 + L1.length : Nat) : Int))] K5) 21 = pm_ct K5 21 := fM.ct (by decide)
                    have m2 : pm_ct (Mu [(23, pm_upd (pm_ct K5 23) c ((c + 1 + L1.length : Nat) : Int))] K5) 22 = pm_ct K5 22 := fM.ct (by decide)
                    have g5 := ih (d + 2) 0 0 (Mu [(23, pm_upd (pm_ct K5 23) c ((c + 1 + L1.length : Nat) : Int))] K5) (dd + 1) (c + 1 + L1.length) c t1 (by omega) (by omega) (by omega) lay1 (F6.tc (by omega) hM) (Fr.tk3 (P := 20) fM (by omega) tk5) v1 (by rw [F6.c (by omega) (Or.inr rfl)]; exact hR) (by rw [F6.c (by omega) (Or.inr rfl)]; exact hC) (by rw [fM.ct (by decide)]; exact ct5) (by omega)
                    rw [k2] at g5
                    refine g_virtual (p := 2) (Qc := _) lk_63_182 rfl (Nat.le_of_ble_eq_true rfl) rfl rfl (lay1.on (by decide) rfl) (Nat.le_of_ble_eq_true rfl) (Nat.le_of_ble_eq_true rfl) (Nat.zero_le _) (Nat.zero_le _) g5 ?_
                    rintro _ K7 ⟨lay7, nf7, rfl, tk7, ct7, sg7, bl7, sv7⟩
                    refine g_ireturn lk_63_185 (fun _ => by omega) ?_
                    refine ⟨lay7, F6.trans nf7, rfl, tk7, ?_, ?_, ?_, (sv5.trans (fM.sv (by decide))).trans sv7⟩
                    · show pm_ct K7 20 3 = ((c + (L1 ++ L2).length.succ : Nat) : Int)
                      rw [List.length_append, show c + (L1.length + L2.length).succ = c + 1 + L1.length + L2.length by omega]
                      exact ct7
                    · rw [List.map_cons, List.map_append]
                      exact SgAt.join (P := 20) x1 x2 bl5 sg5 m1 m2 m3 (by rw [List.length_map]; exact bl7) (by rw [List.length_map]; exact sg7)
                    · exact ((x3.trans bl5 (by omega)).trans (Blw.put (P := 20) m1 m2 m3) (Nat.le_refl _)).trans bl7 (by omega)
                clear w1 w2 w3 w4 w5
                have hp' := hp
                rw [em] at hp'
                refine g_aload_n lk_63_0 rfl ?_
                refine m_getfield (u := []) (M := M) lk_63_1 rfl (lay.on (by decide) rfl) (v := 1) f10' ?_
                refine g_iconst lk_63_4 ?_
                refine g_icmp (t := 33) lk_63_5 rfl (by first | (unfold pm_inI; omega) | exact pm_and_in _ _ | exact pm_shr_in _ _ | exact pm_or_in _ _ | exact pm_xor_in _ _ | exact pm_shl_in _ _ | exact pm_cmp_in _ _ | exact pm_b8_in _ | (unfold pm_inI; split <;> omega)) (by first | (unfold pm_inI; omega) | exact pm_and_in _ _ | exact pm_shr_in _ _ | exact pm_or_in _ _ | exact pm_xor_in _ _ | exact pm_shl_in _ _ | exact pm_cmp_in _ _ | exact pm_b8_in _ | (unfold pm_inI; split <;> omega)) (fun h => absurd h (show ¬ (¬ (1 : Int) = (1 : Int)) by omega)) (fun _ => ?_)
                refine g_aload_n lk_63_8 rfl ?_
                refine m_getfield (u := []) (M := M) lk_63_9 rfl (lay.on (by decide) rfl) (v := 1) f13x ?_
                refine g_ldc lk_63_12 ?_
                refine g_icmp (t := 39) lk_63_14 rfl (by first | (unfold pm_inI; omega) | exact pm_and_in _ _ | exact pm_shr_in _ _ | exact pm_or_in _ _ | exact pm_xor_in _ _ | exact pm_shl_in _ _ | exact pm_cmp_in _ _ | exact pm_b8_in _ | (unfold pm_inI; split <;> omega)) (by first | (unfold pm_inI; omega) | exact pm_and_in _ _ | exact pm_shr_in _ _ | exact pm_or_in _ _ | exact pm_xor_in _ _ | exact pm_shl_in _ _ | exact pm_cmp_in _ _ | exact pm_b8_in _ | (unfold pm_inI; split <;> omega)) (fun h => absurd h (show ¬ ((1 : Int) = (239874 : Int)) by omega)) (fun _ => ?_)
                refine g_aload_n lk_63_17 rfl ?_
                refine m_getfield (u := []) (M := M) lk_63_18 rfl (lay.on (by decide) rfl) (v := 1) f13x ?_
                refine g_iconst lk_63_21 ?_
                refine g_icmp (t := 39) lk_63_22 rfl (by first | (unfold pm_inI; omega) | exact pm_and_in _ _ | exact pm_shr_in _ _ | exact pm_or_in _ _ | exact pm_xor_in _ _ | exact pm_shl_in _ _ | exact pm_cmp_in _ _ | exact pm_b8_in _ | (unfold pm_inI; split <;> omega)) (by first | (unfold pm_inI; omega) | exact pm_and_in _ _ | exact pm_shr_in _ _ | exact pm_or_in _ _ | exact pm_xor_in _ _ | exact pm_shl_in _ _ | exact pm_cmp_in _ _ | exact pm_b8_in _ | (unfold pm_inI; split <;> omega)) (fun _ => ?_) (fun h => absurd (show (1 : Int) = (1 : Int) by omega) h)
                refine g_iload_n lk_63_39 rfl ?_
                refine g_bipush lk_63_40 ?_
                refine g_icmp (t := 54) lk_63_42 rfl (by first | (unfold pm_inI; omega) | exact pm_and_in _ _ | exact pm_shr_in _ _ | exact pm_or_in _ _ | exact pm_xor_in _ _ | exact pm_shl_in _ _ | exact pm_cmp_in _ _ | exact pm_b8_in _ | (unfold pm_inI; split <;> omega)) (by first | (unfold pm_inI; omega) | exact pm_and_in _ _ | exact pm_shr_in _ _ | exact pm_or_in _ _ | exact pm_xor_in _ _ | exact pm_shl_in _ _ | exact pm_cmp_in _ _ | exact pm_b8_in _ | (unfold pm_inI; split <;> omega)) (fun h1 => ?_) (fun h1 => ?_)
                · replace h1 : 9 ≤ (dd : Int) := h1
                  omega
                · replace h1 : ¬ (9 ≤ (dd : Int)) := h1
                  refine g_aload_n lk_63_45 rfl ?_
                  refine m_getfield (u := []) (M := M) lk_63_46 rfl (lay.on (by decide) rfl) (v := (c : Int)) hc ?_
                  refine g_bipush lk_63_49 ?_
                  refine g_icmp (t := 60) lk_63_51 rfl (by first | (unfold pm_inI; omega) | exact pm_and_in _ _ | exact pm_shr_in _ _ | exact pm_or_in _ _ | exact pm_xor_in _ _ | exact pm_shl_in _ _ | exact pm_cmp_in _ _ | exact pm_b8_in _ | (unfold pm_inI; split <;> omega)) (by first | (unfold pm_inI; omega) | exact pm_and_in _ _ | exact pm_shr_in _ _ | exact pm_or_in _ _ | exact pm_xor_in _ _ | exact pm_shl_in _ _ | exact pm_cmp_in _ _ | exact pm_b8_in _ | (unfold pm_inI; split <;> omega)) (fun h2 => ?_) (fun h2 => ?_)
                  · replace h2 : (c : Int) < 31 := h2
                    refine g_aload_n lk_63_60 rfl ?_
                    refine m_getfield (u := []) (M := M) lk_63_61 rfl (lay.on (by decide) rfl) (v := 1) f13x ?_
                    refine g_ldc lk_63_64 ?_
                    refine g_icmp (t := 75) lk_63_66 rfl (by first | (unfold pm_inI; omega) | exact pm_and_in _ _ | exact pm_shr_in _ _ | exact pm_or_in _ _ | exact pm_xor_in _ _ | exact pm_shl_in _ _ | exact pm_cmp_in _ _ | exact pm_b8_in _ | (unfold pm_inI; split <;> omega)) (by first | (unfold pm_inI; omega) | exact pm_and_in _ _ | exact pm_shr_in _ _ | exact pm_or_in _ _ | exact pm_xor_in _ _ | exact pm_shl_in _ _ | exact pm_cmp_in _ _ | exact pm_b8_in _ | (unfold pm_inI; split <;> omega)) (fun _ => ?_) (fun h => absurd (show ¬ (1 : Int) = (239874 : Int) by omega) h)
                    refine g_aload_n lk_63_75 rfl ?_
                    refine m_getfield (u := []) (M := M) lk_63_76 rfl (lay.on (by decide) rfl) (v := 1) f13x ?_
                    refine g_iconst lk_63_79 ?_
                    refine g_icmp (t := 87) lk_63_80 rfl (by first | (unfold pm_inI; omega) | exact pm_and_in _ _ | exact pm_shr_in _ _ | exact pm_or_in _ _ | exact pm_xor_in _ _ | exact pm_shl_in _ _ | exact pm_cmp_in _ _ | exact pm_b8_in _ | (unfold pm_inI; split <;> omega)) (by first | (unfold pm_inI; omega) | exact pm_and_in _ _ | exact pm_shr_in _ _ | exact pm_or_in _ _ | exact pm_xor_in _ _ | exact pm_shl_in _ _ | exact pm_cmp_in _ _ | exact pm_b8_in _ | (unfold pm_inI; split <;> omega)) (fun h => absurd h (show ¬ (¬ (1 : Int) = (1 : Int)) by omega)) (fun _ => ?_)
                    refine g_iconst lk_63_83 ?_
                    refine g_goto (t := 88) lk_63_84 rfl ?_
                    refine g_istore_n (ls' := [(2, ((2 : Nat) : Int)), (2, ((20 : Nat) : Int)), (0, (dd : Int)), (0, 1), (9, 0), (9, 0)]) lk_63_88 rfl rfl ?_
                    refine g_aload_n lk_63_89 rfl ?_
                    refine g_virtual (p := 2) (Qc := _) lk_63_90 rfl (Nat.le_of_ble_eq_true rfl) rfl rfl (lay.on (by decide) rfl) (Nat.le_of_ble_eq_true rfl) (Nat.le_of_ble_eq_true rfl) (Nat.zero_le _) (Nat.zero_le _) (ad) ?_
                    rintro _ K1 ⟨rfl, lay1, rd1, tk1⟩
                    have f4 : pm_ct K1 4 1 = (R : Int) := (by rw [rd1.1.ct (by decide)]; exact hR)
                    have hc1 : pm_ct K1 20 3 = (c : Int) := (by rw [rd1.1.ct (by decide)]; exact hc)
                    show Wp _ 63 93 [(2, ((2 : Nat) : Int)), (2, ((20 : Nat) : Int)), (0, (dd : Int)), (0, 1), (9, 0), (9, 0)] [] K1 _ _ _
                    refine g_aload_n lk_63_93 rfl ?_
                    refine g_iload_n lk_63_94 rfl ?_
                    refine g_if (t := 108) lk_63_95 rfl (by first | (unfold pm_inI; omega) | exact pm_and_in _ _ | exact pm_shr_in _ _ | exact pm_or_in _ _ | exact pm_xor_in _ _ | exact pm_shl_in _ _ | exact pm_cmp_in _ _ | exact pm_b8_in _ | (unfold pm_inI; split <;> omega)) (fun h => absurd h (show ¬ ((1 : Int) = (0 : Int)) by omega)) (fun _ => ?_)
                    refine g_aload_n lk_63_98 rfl ?_
                    refine g_getfield lk_63_99 rfl (lay1.on (by decide) rfl) (v := ((4 : Nat) : Int)) (lay1.rf rfl) ?_
                    refine m_getfield (u := []) (M := K1) lk_63_102 rfl (lay1.on (by decide) rfl) (v := (R : Int)) f4 ?_
                    refine g_goto (t := 115) lk_63_105 rfl ?_
                    refine g_virtual (p := 2) (Qc := _) lk_63_115 rfl (Nat.le_of_ble_eq_true rfl) rfl rfl (lay1.on (by decide) rfl) (Nat.le_of_ble_eq_true rfl) (Nat.le_of_ble_eq_true rfl) (Nat.zero_le _) (Nat.zero_le _) (c_Reader_readSet (d := d + 1) (mc := 0) (ms := 0) lay1 (hM.rd rd1) tk1 u1 r6) ?_
                    rintro ρ2 K2 ⟨lay2, re2, o2⟩
                    obtain ⟨s1, s2, rfl, eK⟩ := set_inr hp' o2
                    rw [eK]
                    show Wp _ 63 118 [(2, ((2 : Nat) : Int)), (2, ((20 : Nat) : Int)), (0, (dd : Int)), (0, 1), (9, 0), (9, 0)] [(0, (s : Int))] K1 _ _ _
                    refine g_istore (ls' := [(2, ((2 : Nat) : Int)), (2, ((20 : Nat) : Int)), (0, (dd : Int)), (0, 1), (0, (s : Int)), (9, 0)]) lk_63_118 rfl rfl ?_
                    refine g_iload lk_63_120 rfl ?_
                    refine g_if (t := 127) lk_63_122 rfl (by first | (unfold pm_inI; omega) | exact pm_and_in _ _ | exact pm_shr_in _ _ | exact pm_or_in _ _ | exact pm_xor_in _ _ | exact pm_shl_in _ _ | exact pm_cmp_in _ _ | exact pm_b8_in _ | (unfold pm_inI; split <;> omega)) (fun h3 => ?_) (fun h3 => ?_)
                    · replace h3 : ¬ (s : Int) = 0 := h3
                      refine g_aload_n lk_63_127 rfl ?_
                      refine g_iload_n lk_63_128 rfl ?_
                      refine g_if (t := 136) lk_63_129 rfl (by first | (unfold pm_inI; omega) | exact pm_and_in _ _ | exact pm_shr_in _ _ | exact pm_or_in _ _ | exact pm_xor_in _ _ | exact pm_shl_in _ _ | exact pm_cmp_in _ _ | exact pm_b8_in _ | (unfold pm_inI; split <;> omega)) (fun h => absurd h (show ¬ ((1 : Int) = (0 : Int)) by omega)) (fun _ => ?_)
                      refine g_iconst lk_63_132 ?_
                      refine g_goto (t := 137) lk_63_133 rfl ?_
                      refine g_iload lk_63_137 rfl ?_
                      refine g_virtual (p := 20) (Qc := _) lk_63_139 rfl (Nat.le_of_ble_eq_true rfl) rfl rfl (lay1.on (by decide) rfl) (Nat.le_of_ble_eq_true rfl) (Nat.le_of_ble_eq_true rfl) (Nat.zero_le _) (Nat.zero_le _) (c_Nodes_addR3 (d := d + 2) (mc := 0) (ms := 0) (x := 1) (y := s) lay1 hc1 c30) ?_
                      rintro _ K3 ⟨rfl, lay3, ax⟩
                      have tc3 := (ax.nd (by omega)).tc (by omega) (hM.rd rd1)
                      have ad3 := c_Reader_advance (d := d + 1) (mc := 0) (ms := 0) lay3 tc3 (ax.tk (by omega) tk1).2.2.2.1 u1.2.2.1
                      show Wp _ 63 142 [(2, ((2 : Nat) : Int)), (2, ((20 : Nat) : Int)), (0, (dd : Int)), (0, 1), (0, (s : Int)), (9, 0)] [(0, (c : Int))] K3 _ _ _
                      refine g_istore (ls' := [(2, ((2 : Nat) : Int)), (2, ((20 : Nat) : Int)), (0, (dd : Int)), (0, 1), (0, (s : Int)), (0, (c : Int))]) lk_63_142 rfl rfl ?_
                      refine g_aload_n lk_63_144 rfl ?_
                      refine g_virtual (p := 2) (Qc := _) lk_63_145 rfl (Nat.le_of_ble_eq_true rfl) rfl rfl (lay3.on (by decide) rfl) (Nat.le_of_ble_eq_true rfl) (Nat.le_of_ble_eq_true rfl) (Nat.zero_le _) (Nat.zero_le _) (ad3) ?_
                      rintro _ K4 ⟨rfl, lay4, rd4, tk4⟩
                      have F4 : NdF 20 M K4 := (rd1.re.nd.trans (ax.nd (by omega))).trans rd4.re.nd
                      have x3 : Blw M K4 20 c := ((rd1.blw (by omega)).trans ax.blw (Nat.le_refl _)).trans (rd4.blw (c := c) (by omega)) (Nat.le_refl _)
                      have x1 : pm_ct K4 21 c = (1 : Int) := (by rw [rd4.1.ct (by decide)]; exact ax.at.1)
                      have x2 : pm_ct K4 22 c = (s : Int) := (by rw [rd4.1.ct (by decide)]; exact ax.at.2.1)
                      have sv4 : Sv M K4 := (rd1.sv.trans (ax.1.sv (by decide))).trans rd4.sv
                      have g4 := ih (d + 2) 0 0 K4 (dd + 1) (c + 1) c _ (by omega) (by omega) (by omega) lay4 (tc3.rd rd4) tk4 u2 (by rw [F4.c (by omega) (Or.inr rfl)]; exact hR) (by rw [F4.c (by omega) (Or.inr rfl)]; exact hC) (by rw [rd4.1.ct (by decide)]; exact ax.2.1) (by omega)
                      rw [k1] at g4
                      show Wp _ 63 148 [(2, ((2 : Nat) : Int)), (2, ((20 : Nat) : Int)), (0, (dd : Int)), (0, 1), (0, (s : Int)), (0, (c : Int))] [] K4 _ _ _
                      refine g_iload lk_63_148 rfl ?_
                      refine g_if (t := 164) lk_63_150 rfl (by first | (unfold pm_inI; omega) | exact pm_and_in _ _ | exact pm_shr_in _ _ | exact pm_or_in _ _ | exact pm_xor_in _ _ | exact pm_shl_in _ _ | exact pm_cmp_in _ _ | exact pm_b8_in _ | (unfold pm_inI; split <;> omega)) (fun h4 => ?_) (fun h4 => ?_)
                      · replace h4 : (c : Int) < 0 := h4
                        omega
                      · replace h4 : ¬ ((c : Int) < 0) := h4
                        refine g_aload_n lk_63_153 rfl ?_
                        refine g_aload_n lk_63_154 rfl ?_
                        refine g_iload_n lk_63_155 rfl ?_
                        refine g_iconst lk_63_156 ?_
                        refine g_iadd lk_63_157 ?_
                        refine g_virtual (p := 2) (Qc := _) lk_63_158 rfl (Nat.le_of_ble_eq_true rfl) rfl rfl (lay4.on (by decide) rfl) (Nat.le_of_ble_eq_true rfl) (Nat.le_of_ble_eq_true rfl) (Nat.zero_le _) (Nat.zero_le _) (g4) ?_
                        rintro _ K5 ⟨lay5, nf5, rfl, tk5, ct5, sg5, bl5, sv5⟩
                        show Wp _ 63 161 [(2, ((2 : Nat) : Int)), (2, ((20 : Nat) : Int)), (0, (dd : Int)), (0, 1), (0, (s : Int)), (0, (c : Int))] [(0, 1)] K5 _ _ _
                        refine g_if (t := 166) lk_63_161 rfl (by first | (unfold pm_inI; omega) | exact pm_and_in _ _ | exact pm_shr_in _ _ | exact pm_or_in _ _ | exact pm_xor_in _ _ | exact pm_shl_in _ _ | exact pm_cmp_in _ _ | exact pm_b8_in _ | (unfold pm_inI; split <;> omega)) (fun _ => ?_) (fun h => absurd (show ¬ (1 : Int) = (0 : Int) by omega) h)
                        exact step K4 K5 lay5 F4 nf5 x1 x2 x3 tk5 ct5 sg5 bl5 (sv4.trans sv5)
                    · replace h3 : ¬ (¬ (s : Int) = 0) := h3
                      refine g_iconst lk_63_125 ?_
                      refine g_ireturn lk_63_126 (fun _ => by omega) ?_
                      omega
                  · replace h2 : ¬ ((c : Int) < 31) := h2
                    omega
          · have y2 : twd ch t = wdB := by
              rcases a.2 with e | e | e
              · exact absurd e g
              · exact absurd e y
              · exact e
            have em : (if twd ch t = wdA then R else C) = C := if_neg y
            have ex : (if twd ch t = wdA then 1 else 2) = 2 := if_neg y
            have f13x : pm_ct M 2 13 = 2 := by rw [f13']; exact w2.mpr y2
            cases hp : pSet ch (if twd ch t = wdA then R else C) (lxt ch n t.2.2) with
            | inl e =>
              rw [pN_nd0 a b g hp]
              rw [em] at hp
              clear ih w1 w2 w3 w4 w5
              refine g_aload_n lk_63_0 rfl ?_
              refine m_getfield (u := []) (M := M) lk_63_1 rfl (lay.on (by decide) rfl) (v := 1) f10' ?_
              refine g_iconst lk_63_4 ?_
              refine g_icmp (t := 33) lk_63_5 rfl (by first | (unfold pm_inI; omega) | exact pm_and_in _ _ | exact pm_shr_in _ _ | exact pm_or_in _ _ | exact pm_xor_in _ _ | exact pm_shl_in _ _ | exact pm_cmp_in _ _ | exact pm_b8_in _ | (unfold pm_inI; split <;> omega)) (by first | (unfold pm_inI; omega) | exact pm_and_in _ _ | exact pm_shr_in _ _ | exact pm_or_in _ _ | exact pm_xor_in _ _ | exact pm_shl_in _ _ | exact pm_cmp_in _ _ | exact pm_b8_in _ | (unfold pm_inI; split <;> omega)) (fun h => absurd h (show ¬ (¬ (1 : Int) = (1 : Int)) by omega)) (fun _ => ?_)
              refine g_aload_n lk_63_8 rfl ?_
              refine m_getfield (u := []) (M := M) lk_63_9 rfl (lay.on (by decide) rfl) (v := 2) f13x ?_
              refine g_ldc lk_63_12 ?_
              refine g_icmp (t := 39) lk_63_14 rfl (by first | (unfold pm_inI; omega) | exact pm_and_in _ _ | exact pm_shr_in _ _ | exact pm_or_in _ _ | exact pm_xor_in _ _ | exact pm_shl_in _ _ | exact pm_cmp_in _ _ | exact pm_b8_in _ | (unfold pm_inI; split <;> omega)) (by first | (unfold pm_inI; omega) | exact pm_and_in _ _ | exact pm_shr_in _ _ | exact pm_or_in _ _ | exact pm_xor_in _ _ | exact pm_shl_in _ _ | exact pm_cmp_in _ _ | exact pm_b8_in _ | (unfold pm_inI; split <;> omega)) (fun h => absurd h (show ¬ ((2 : Int) = (239874 : Int)) by omega)) (fun _ => ?_)
              refine g_aload_n lk_63_17 rfl ?_
              refine m_getfield (u := []) (M := M) lk_63_18 rfl (lay.on (by decide) rfl) (v := 2) f13x ?_
              refine g_iconst lk_63_21 ?_
              refine g_icmp (t := 39) lk_63_22 rfl (by first | (unfold pm_inI; omega) | exact pm_and_in _ _ | exact pm_shr_in _ _ | exact pm_or_in _ _ | exact pm_xor_in _ _ | exact pm_shl_in _ _ | exact pm_cmp_in _ _ | exact pm_b8_in _ | (unfold pm_inI; split <;> omega)) (by first | (unfold pm_inI; omega) | exact pm_and_in _ _ | exact pm_shr_in _ _ | exact pm_or_in _ _ | exact pm_xor_in _ _ | exact pm_shl_in _ _ | exact pm_cmp_in _ _ | exact pm_b8_in _ | (unfold pm_inI; split <;> omega)) (fun h => absurd h (show ¬ ((2 : Int) = (1 : Int)) by omega)) (fun _ => ?_)
              refine g_aload_n lk_63_25 rfl ?_
              refine m_getfield (u := []) (M := M) lk_63_26 rfl (lay.on (by decide) rfl) (v := 2) f13x ?_
              refine g_iconst lk_63_29 ?_
              refine g_icmp (t := 39) lk_63_30 rfl (by first | (unfold pm_inI; omega) | exact pm_and_in _ _ | exact pm_shr_in _ _ | exact pm_or_in _ _ | exact pm_xor_in _ _ | exact pm_shl_in _ _ | exact pm_cmp_in _ _ | exact pm_b8_in _ | (unfold pm_inI; split <;> omega)) (by first | (unfold pm_inI; omega) | exact pm_and_in _ _ | exact pm_shr_in _ _ | exact pm_or_in _ _ | exact pm_xor_in _ _ | exact pm_shl_in _ _ | exact pm_cmp_in _ _ | exact pm_b8_in _ | (unfold pm_inI; split <;> omega)) (fun _ => ?_) (fun h => absurd (show (2 : Int) = (2 : Int) by omega) h)
              refine g_iload_n lk_63_39 rfl ?_
              refine g_bipush lk_63_40 ?_
              refine g_icmp (t := 54) lk_63_42 rfl (by first | (unfold pm_inI; omega) | exact pm_and_in _ _ | exact pm_shr_in _ _ | exact pm_or_in _ _ | exact pm_xor_in _ _ | exact pm_shl_in _ _ | exact pm_cmp_in _ _ | exact pm_b8_in _ | (unfold pm_inI; split <;> omega)) (by first | (unfold pm_inI; omega) | exact pm_and_in _ _ | exact pm_shr_in _ _ | exact pm_or_in _ _ | exact pm_xor_in _ _ | exact pm_shl_in _ _ | exact pm_cmp_in _ _ | exact pm_b8_in _ | (unfold pm_inI; split <;> omega)) (fun h1 => ?_) (fun h1 => ?_)
              · replace h1 : 9 ≤ (dd : Int) := h1
                omega
              · replace h1 : ¬ (9 ≤ (dd : Int)) := h1
                refine g_aload_n lk_63_45 rfl ?_
                refine m_getfield (u := []) (M := M) lk_63_46 rfl (lay.on (by decide) rfl) (v := (c : Int)) hc ?_
                refine g_bipush lk_63_49 ?_
                refine g_icmp (t := 60) lk_63_51 rfl (by first | (unfold pm_inI; omega) | exact pm_and_in _ _ | exact pm_shr_in _ _ | exact pm_or_in _ _ | exact pm_xor_in _ _ | exact pm_shl_in _ _ | exact pm_cmp_in _ _ | exact pm_b8_in _ | (unfold pm_inI; split <;> omega)) (by first | (unfold pm_inI; omega) | exact pm_and_in _ _ | exact pm_shr_in _ _ | exact pm_or_in _ _ | exact pm_xor_in _ _ | exact pm_shl_in _ _ | exact pm_cmp_in _ _ | exact pm_b8_in _ | (unfold pm_inI; split <;> omega)) (fun h2 => ?_) (fun h2 => ?_)
                · replace h2 : (c : Int) < 31 := h2
                  refine g_aload_n lk_63_60 rfl ?_
                  refine m_getfield (u := []) (M := M) lk_63_61 rfl (lay.on (by decide) rfl) (v := 2) f13x ?_
                  refine g_ldc lk_63_64 ?_
                  refine g_icmp (t := 75) lk_63_66 rfl (by first | (unfold pm_inI; omega) | exact pm_and_in _ _ | exact pm_shr_in _ _ | exact pm_or_in _ _ | exact pm_xor_in _ _ | exact pm_shl_in _ _ | exact pm_cmp_in _ _ | exact pm_b8_in _ | (unfold pm_inI; split <;> omega)) (by first | (unfold pm_inI; omega) | exact pm_and_in _ _ | exact pm_shr_in _ _ | exact pm_or_in _ _ | exact pm_xor_in _ _ | exact pm_shl_in _ _ | exact pm_cmp_in _ _ | exact pm_b8_in _ | (unfold pm_inI; split <;> omega)) (fun _ => ?_) (fun h => absurd (show ¬ (2 : Int) = (239874 : Int) by omega) h)
                  refine g_aload_n lk_63_75 rfl ?_
                  refine m_getfield (u := []) (M := M) lk_63_76 rfl (lay.on (by decide) rfl) (v := 2) f13x ?_
                  refine g_iconst lk_63_79 ?_
                  refine g_icmp (t := 87) lk_63_80 rfl (by first | (unfold pm_inI; omega) | exact pm_and_in _ _ | exact pm_shr_in _ _ | exact pm_or_in _ _ | exact pm_xor_in _ _ | exact pm_shl_in _ _ | exact pm_cmp_in _ _ | exact pm_b8_in _ | (unfold pm_inI; split <;> omega)) (by first | (unfold pm_inI; omega) | exact pm_and_in _ _ | exact pm_shr_in _ _ | exact pm_or_in _ _ | exact pm_xor_in _ _ | exact pm_shl_in _ _ | exact pm_cmp_in _ _ | exact pm_b8_in _ | (unfold pm_inI; split <;> omega)) (fun _ => ?_) (fun h => absurd (show ¬ (2 : Int) = (1 : Int) by omega) h)
                  refine g_iconst lk_63_87 ?_
                  refine g_istore_n (ls' := [(2, ((2 : Nat) : Int)), (2, ((20 : Nat) : Int)), (0, (dd : Int)), (0, 0), (9, 0), (9, 0)]) lk_63_88 rfl rfl ?_
                  refine g_aload_n lk_63_89 rfl ?_
                  refine g_virtual (p := 2) (Qc := _) lk_63_90 rfl (Nat.le_of_ble_eq_true rfl) rfl rfl (lay.on (by decide) rfl) (Nat.le_of_ble_eq_true rfl) (Nat.le_of_ble_eq_true rfl) (Nat.zero_le _) (Nat.zero_le _) (ad) ?_
                  rintro _ K1 ⟨rfl, lay1, rd1, tk1⟩
                  have f4 : pm_ct K1 4 2 = (C : Int) := (by rw [rd1.1.ct (by decide)]; exact hC)
                  have hc1 : pm_ct K1 20 3 = (c : Int) := (by rw [rd1.1.ct (by decide)]; exact hc)
                  show Wp _ 63 93 [(2, ((2 : Nat) : Int)), (2, ((20 : Nat) : Int)), (0, (dd : Int)), (0, 0), (9, 0), (9, 0)] [] K1 _ _ _
                  refine g_aload_n lk_63_93 rfl ?_
                  refine g_iload_n lk_63_94 rfl ?_
                  refine g_if (t := 108) lk_63_95 rfl (by first | (unfold pm_inI; omega) | exact pm_and_in _ _ | exact pm_shr_in _ _ | exact pm_or_in _ _ | exact pm_xor_in _ _ | exact pm_shl_in _ _ | exact pm_cmp_in _ _ | exact pm_b8_in _ | (unfold pm_inI; split <;> omega)) (fun _ => ?_) (fun h => absurd (show (0 : Int) = (0 : Int) by omega) h)
                  refine g_aload_n lk_63_108 rfl ?_
                  refine g_getfield lk_63_109 rfl (lay1.on (by decide) rfl) (v := ((4 : Nat) : Int)) (lay1.rf rfl) ?_
                  refine m_getfield (u := []) (M := K1) lk_63_112 rfl (lay1.on (by decide) rfl) (v := (C : Int)) f4 ?_
                  refine g_virtual (p := 2) (Qc := _) lk_63_115 rfl (Nat.le_of_ble_eq_true rfl) rfl rfl (lay1.on (by decide) rfl) (Nat.le_of_ble_eq_true rfl) (Nat.le_of_ble_eq_true rfl) (Nat.zero_le _) (Nat.zero_le _) (c_Reader_readSet (d := d + 1) (mc := 0) (ms := 0) lay1 (hM.rd rd1) tk1 u1 c6) ?_
                  rintro ρ2 K2 ⟨lay2, re2, o2⟩
                  obtain ⟨rfl, ft2⟩ := set_inl hp o2
                  show Wp _ 63 118 [(2, ((2 : Nat) : Int)), (2, ((20 : Nat) : Int)), (0, (dd : Int)), (0, 0), (9, 0), (9, 0)] [(0, 0)] K2 _ _ _
                  refine g_istore (ls' := [(2, ((2 : Nat) : Int)), (2, ((20 : Nat) : Int)), (0, (dd : Int)), (0, 0), (0, 0), (9, 0)]) lk_63_118 rfl rfl ?_
                  refine g_iload lk_63_120 rfl ?_
                  refine g_if (t := 127) lk_63_122 rfl (by first | (unfold pm_inI; omega) | exact pm_and_in _ _ | exact pm_shr_in _ _ | exact pm_or_in _ _ | exact pm_xor_in _ _ | exact pm_shl_in _ _ | exact pm_cmp_in _ _ | exact pm_b8_in _ | (unfold pm_inI; split <;> omega)) (fun h => absurd h (show ¬ (¬ (0 : Int) = (0 : Int)) by omega)) (fun _ => ?_)
                  refine g_iconst lk_63_125 ?_
                  refine g_ireturn lk_63_126 (fun _ => by omega) ?_
                  exact ⟨lay2, rd1.re.nd.trans re2.nd, rfl, ft2⟩
                · replace h2 : ¬ ((c : Int) < 31) := h2
                  omega
            | inr s =>
              cases k1 : pN ch n R C f (dd + 1) (c + 1) c (lxt ch n (lxt ch n t.2.2).2.2) with
              | inl e =>
                rw [pN_nd1 a b g hp k1]
                rw [em] at hp
                clear w1 w2 w3 w4 w5
                refine g_aload_n lk_63_0 rfl ?_
                refine m_getfield (u := []) (M := M) lk_63_1 rfl (lay.on (by decide) rfl) (v := 1) f10' ?_
                refine g_iconst lk_63_4 ?_
                refine g_icmp (t := 33) lk_63_5 rfl (by first | (unfold pm_inI; omega) | exact pm_and_in _ _ | exact pm_shr_in _ _ | exact pm_or_in _ _ | exact pm_xor_in _ _ | exact pm_shl_in _ _ | exact pm_cmp_in _ _ | exact pm_b8_in _ | (unfold pm_inI; split <;> omega)) (by first | (unfold pm_inI; omega) | exact pm_and_in _ _ | exact pm_shr_in _ _ | exact pm_or_in _ _ | exact pm_xor_in _ _ | exact pm_shl_in _ _ | exact pm_cmp_in _ _ | exact pm_b8_in _ | (unfold pm_inI; split <;> omega)) (fun h => absurd h (show ¬ (¬ (1 : Int) = (1 : Int)) by omega)) (fun _ => ?_)
                refine g_aload_n lk_63_8 rfl ?_
                refine m_getfield (u := []) (M := M) lk_63_9 rfl (lay.on (by decide) rfl) (v := 2) f13x ?_
                refine g_ldc lk_63_12 ?_
                refine g_icmp (t := 39) lk_63_14 rfl (by first | (unfold pm_inI; omega) | exact pm_and_in _ _ | exact pm_shr_in _ _ | exact pm_or_in _ _ | exact pm_xor_in _ _ | exact pm_shl_in _ _ | exact pm_cmp_in _ _ | exact pm_b8_in _ | (unfold pm_inI; split <;> omega)) (by first | (unfold pm_inI; omega) | exact pm_and_in _ _ | exact pm_shr_in _ _ | exact pm_or_in _ _ | exact pm_xor_in _ _ | exact pm_shl_in _ _ | exact pm_cmp_in _ _ | exact pm_b8_in _ | (unfold pm_inI; split <;> omega)) (fun h => absurd h (show ¬ ((2 : Int) = (239874 : Int)) by omega)) (fun _ => ?_)
                refine g_aload_n lk_63_17 rfl ?_
                refine m_getfield (u := []) (M := M) lk_63_18 rfl (lay.on (by decide) rfl) (v := 2) f13x ?_
                refine g_iconst lk_63_21 ?_
                refine g_icmp (t := 39) lk_63_22 rfl (by first | (unfold pm_inI; omega) | exact pm_and_in _ _ | exact pm_shr_in _ _ | exact pm_or_in _ _ | exact pm_xor_in _ _ | exact pm_shl_in _ _ | exact pm_cmp_in _ _ | exact pm_b8_in _ | (unfold pm_inI; split <;> omega)) (by first | (unfold pm_inI; omega) | exact pm_and_in _ _ | exact pm_shr_in _ _ | exact pm_or_in _ _ | exact pm_xor_in _ _ | exact pm_shl_in _ _ | exact pm_cmp_in _ _ | exact pm_b8_in _ | (unfold pm_inI; split <;> omega)) (fun h => absurd h (show ¬ ((2 : Int) = (1 : Int)) by omega)) (fun _ => ?_)
                refine g_aload_n lk_63_25 rfl ?_
                refine m_getfield (u := []) (M := M) lk_63_26 rfl (lay.on (by decide) rfl) (v := 2) f13x ?_
                refine g_iconst lk_63_29 ?_
                refine g_icmp (t := 39) lk_63_30 rfl (by first | (unfold pm_inI; omega) | exact pm_and_in _ _ | exact pm_shr_in _ _ | exact pm_or_in _ _ | exact pm_xor_in _ _ | exact pm_shl_in _ _ | exact pm_cmp_in _ _ | exact pm_b8_in _ | (unfold pm_inI; split <;> omega)) (by first | (unfold pm_inI; omega) | exact pm_and_in _ _ | exact pm_shr_in _ _ | exact pm_or_in _ _ | exact pm_xor_in _ _ | exact pm_shl_in _ _ | exact pm_cmp_in _ _ | exact pm_b8_in _ | (unfold pm_inI; split <;> omega)) (fun _ => ?_) (fun h => absurd (show (2 : Int) = (2 : Int) by omega) h)
                refine g_iload_n lk_63_39 rfl ?_
                refine g_bipush lk_63_40 ?_
                refine g_icmp (t := 54) lk_63_42 rfl (by first | (unfold pm_inI; omega) | exact pm_and_in _ _ | exact pm_shr_in _ _ | exact pm_or_in _ _ | exact pm_xor_in _ _ | exact pm_shl_in _ _ | exact pm_cmp_in _ _ | exact pm_b8_in _ | (unfold pm_inI; split <;> omega)) (by first | (unfold pm_inI; omega) | exact pm_and_in _ _ | exact pm_shr_in _ _ | exact pm_or_in _ _ | exact pm_xor_in _ _ | exact pm_shl_in _ _ | exact pm_cmp_in _ _ | exact pm_b8_in _ | (unfold pm_inI; split <;> omega)) (fun h1 => ?_) (fun h1 => ?_)
                · replace h1 : 9 ≤ (dd : Int) := h1
                  omega
                · replace h1 : ¬ (9 ≤ (dd : Int)) := h1
                  refine g_aload_n lk_63_45 rfl ?_
                  refine m_getfield (u := []) (M := M) lk_63_46 rfl (lay.on (by decide) rfl) (v := (c : Int)) hc ?_
                  refine g_bipush lk_63_49 ?_
                  refine g_icmp (t := 60) lk_63_51 rfl (by first | (unfold pm_inI; omega) | exact pm_and_in _ _ | exact pm_shr_in _ _ | exact pm_or_in _ _ | exact pm_xor_in _ _ | exact pm_shl_in _ _ | exact pm_cmp_in _ _ | exact pm_b8_in _ | (unfold pm_inI; split <;> omega)) (by first | (unfold pm_inI; omega) | exact pm_and_in _ _ | exact pm_shr_in _ _ | exact pm_or_in _ _ | exact pm_xor_in _ _ | exact pm_shl_in _ _ | exact pm_cmp_in _ _ | exact pm_b8_in _ | (unfold pm_inI; split <;> omega)) (fun h2 => ?_) (fun h2 => ?_)
                  · replace h2 : (c : Int) < 31 := h2
                    refine g_aload_n lk_63_60 rfl ?_
                    refine m_getfield (u := []) (M := M) lk_63_61 rfl (lay.on (by decide) rfl) (v := 2) f13x ?_
                    refine g_ldc lk_63_64 ?_
                    refine g_icmp (t := 75) lk_63_66 rfl (by first | (unfold pm_inI; omega) | exact pm_and_in _ _ | exact pm_shr_in _ _ | exact pm_or_in _ _ | exact pm_xor_in _ _ | exact pm_shl_in _ _ | exact pm_cmp_in _ _ | exact pm_b8_in _ | (unfold pm_inI; split <;> omega)) (by first | (unfold pm_inI; omega) | exact pm_and_in _ _ | exact pm_shr_in _ _ | exact pm_or_in _ _ | exact pm_xor_in _ _ | exact pm_shl_in _ _ | exact pm_cmp_in _ _ | exact pm_b8_in _ | (unfold pm_inI; split <;> omega)) (fun _ => ?_) (fun h => absurd (show ¬ (2 : Int) = (239874 : Int) by omega) h)
                    refine g_aload_n lk_63_75 rfl ?_
                    refine m_getfield (u := []) (M := M) lk_63_76 rfl (lay.on (by decide) rfl) (v := 2) f13x ?_
                    refine g_iconst lk_63_79 ?_
                    refine g_icmp (t := 87) lk_63_80 rfl (by first | (unfold pm_inI; omega) | exact pm_and_in _ _ | exact pm_shr_in _ _ | exact pm_or_in _ _ | exact pm_xor_in _ _ | exact pm_shl_in _ _ | exact pm_cmp_in _ _ | exact pm_b8_in _ | (unfold pm_inI; split <;> omega)) (by first | (unfold pm_inI; omega) | exact pm_and_in _ _ | exact pm_shr_in _ _ | exact pm_or_in _ _ | exact pm_xor_in _ _ | exact pm_shl_in _ _ | exact pm_cmp_in _ _ | exact pm_b8_in _ | (unfold pm_inI; split <;> omega)) (fun _ => ?_) (fun h => absurd (show ¬ (2 : Int) = (1 : Int) by omega) h)
                    refine g_iconst lk_63_87 ?_
                    refine g_istore_n (ls' := [(2, ((2 : Nat) : Int)), (2, ((20 : Nat) : Int)), (0, (dd : Int)), (0, 0), (9, 0), (9, 0)]) lk_63_88 rfl rfl ?_
                    refine g_aload_n lk_63_89 rfl ?_
                    refine g_virtual (p := 2) (Qc := _) lk_63_90 rfl (Nat.le_of_ble_eq_true rfl) rfl rfl (lay.on (by decide) rfl) (Nat.le_of_ble_eq_true rfl) (Nat.le_of_ble_eq_true rfl) (Nat.zero_le _) (Nat.zero_le _) (ad) ?_
                    rintro _ K1 ⟨rfl, lay1, rd1, tk1⟩
                    have f4 : pm_ct K1 4 2 = (C : Int) := (by rw [rd1.1.ct (by decide)]; exact hC)
                    have hc1 : pm_ct K1 20 3 = (c : Int) := (by rw [rd1.1.ct (by decide)]; exact hc)
                    show Wp _ 63 93 [(2, ((2 : Nat) : Int)), (2, ((20 : Nat) : Int)), (0, (dd : Int)), (0, 0), (9, 0), (9, 0)] [] K1 _ _ _
                    refine g_aload_n lk_63_93 rfl ?_
                    refine g_iload_n lk_63_94 rfl ?_
                    refine g_if (t := 108) lk_63_95 rfl (by first | (unfold pm_inI; omega) | exact pm_and_in _ _ | exact pm_shr_in _ _ | exact pm_or_in _ _ | exact pm_xor_in _ _ | exact pm_shl_in _ _ | exact pm_cmp_in _ _ | exact pm_b8_in _ | (unfold pm_inI; split <;> omega)) (fun _ => ?_) (fun h => absurd (show (0 : Int) = (0 : Int) by omega) h)
                    refine g_aload_n lk_63_108 rfl ?_
                    refine g_getfield lk_63_109 rfl (lay1.on (by decide) rfl) (v := ((4 : Nat) : Int)) (lay1.rf rfl) ?_
                    refine m_getfield (u := []) (M := K1) lk_63_112 rfl (lay1.on (by decide) rfl) (v := (C : Int)) f4 ?_
                    refine g_virtual (p := 2) (Qc := _) lk_63_115 rfl (Nat.le_of_ble_eq_true rfl) rfl rfl (lay1.on (by decide) rfl) (Nat.le_of_ble_eq_true rfl) (Nat.le_of_ble_eq_true rfl) (Nat.zero_le _) (Nat.zero_le _) (c_Reader_readSet (d := d + 1) (mc := 0) (ms := 0) lay1 (hM.rd rd1) tk1 u1 c6) ?_
                    rintro ρ2 K2 ⟨lay2, re2, o2⟩
                    obtain ⟨s1, s2, rfl, eK⟩ := set_inr hp o2
                    rw [eK]
                    show Wp _ 63 118 [(2, ((2 : Nat) : Int)), (2, ((20 : Nat) : Int)), (0, (dd : Int)), (0, 0), (9, 0), (9, 0)] [(0, (s : Int))] K1 _ _ _
                    refine g_istore (ls' := [(2, ((2 : Nat) : Int)), (2, ((20 : Nat) : Int)), (0, (dd : Int)), (0, 0), (0, (s : Int)), (9, 0)]) lk_63_118 rfl rfl ?_
                    refine g_iload lk_63_120 rfl ?_
                    refine g_if (t := 127) lk_63_122 rfl (by first | (unfold pm_inI; omega) | exact pm_and_in _ _ | exact pm_shr_in _ _ | exact pm_or_in _ _ | exact pm_xor_in _ _ | exact pm_shl_in _ _ | exact pm_cmp_in _ _ | exact pm_b8_in _ | (unfold pm_inI; split <;> omega)) (fun h3 => ?_) (fun h3 => ?_)
                    · replace h3 : ¬ (s : Int) = 0 := h3
                      refine g_aload_n lk_63_127 rfl ?_
                      refine g_iload_n lk_63_128 rfl ?_
                      refine g_if (t := 136) lk_63_129 rfl (by first | (unfold pm_inI; omega) | exact pm_and_in _ _ | exact pm_shr_in _ _ | exact pm_or_in _ _ | exact pm_xor_in _ _ | exact pm_shl_in _ _ | exact pm_cmp_in _ _ | exact pm_b8_in _ | (unfold pm_inI; split <;> omega)) (fun _ => ?_) (fun h => absurd (show (0 : Int) = (0 : Int) by omega) h)
                      refine g_iconst lk_63_136 ?_
                      refine g_iload lk_63_137 rfl ?_
                      refine g_virtual (p := 20) (Qc := _) lk_63_139 rfl (Nat.le_of_ble_eq_true rfl) rfl rfl (lay1.on (by decide) rfl) (Nat.le_of_ble_eq_true rfl) (Nat.le_of_ble_eq_true rfl) (Nat.zero_le _) (Nat.zero_le _) (c_Nodes_addR3 (d := d + 2) (mc := 0) (ms := 0) (x := 2) (y := s) lay1 hc1 c30) ?_
                      rintro _ K3 ⟨rfl, lay3, ax⟩
                      have tc3 := (ax.nd (by omega)).tc (by omega) (hM.rd rd1)
                      have ad3 := c_Reader_advance (d := d + 1) (mc := 0) (ms := 0) lay3 tc3 (ax.tk (by omega) tk1).2.2.2.1 u1.2.2.1
                      show Wp _ 63 142 [(2, ((2 : Nat) : Int)), (2, ((20 : Nat) : Int)), (0, (dd : Int)), (0, 0), (0, (s : Int)), (9, 0)] [(0, (c : Int))] K3 _ _ _
                      refine g_istore (ls' := [(2, ((2 : Nat) : Int)), (2, ((20 : Nat) : Int)), (0, (dd : Int)), (0, 0), (0, (s : Int)), (0, (c : Int))]) lk_63_142 rfl rfl ?_
                      refine g_aload_n lk_63_144 rfl ?_
                      refine g_virtual (p := 2) (Qc := _) lk_63_145 rfl (Nat.le_of_ble_eq_true rfl) rfl rfl (lay3.on (by decide) rfl) (Nat.le_of_ble_eq_true rfl) (Nat.le_of_ble_eq_true rfl) (Nat.zero_le _) (Nat.zero_le _) (ad3) ?_
                      rintro _ K4 ⟨rfl, lay4, rd4, tk4⟩
                      have F4 : NdF 20 M K4 := (rd1.re.nd.trans (ax.nd (by omega))).trans rd4.re.nd
                      have x3 : Blw M K4 20 c := ((rd1.blw (by omega)).trans ax.blw (Nat.le_refl _)).trans (rd4.blw (c := c) (by omega)) (Nat.le_refl _)
                      have x1 : pm_ct K4 21 c = (2 : Int) := (by rw [rd4.1.ct (by decide)]; exact ax.at.1)
                      have x2 : pm_ct K4 22 c = (s : Int) := (by rw [rd4.1.ct (by decide)]; exact ax.at.2.1)
                      have sv4 : Sv M K4 := (rd1.sv.trans (ax.1.sv (by decide))).trans rd4.sv
                      have g4 := ih (d + 2) 0 0 K4 (dd + 1) (c + 1) c _ (by omega) (by omega) (by omega) lay4 (tc3.rd rd4) tk4 u2 (by rw [F4.c (by omega) (Or.inr rfl)]; exact hR) (by rw [F4.c (by omega) (Or.inr rfl)]; exact hC) (by rw [rd4.1.ct (by decide)]; exact ax.2.1) (by omega)
                      rw [k1] at g4
                      show Wp _ 63 148 [(2, ((2 : Nat) : Int)), (2, ((20 : Nat) : Int)), (0, (dd : Int)), (0, 0), (0, (s : Int)), (0, (c : Int))] [] K4 _ _ _
                      refine g_iload lk_63_148 rfl ?_
                      refine g_if (t := 164) lk_63_150 rfl (by first | (unfold pm_inI; omega) | exact pm_and_in _ _ | exact pm_shr_in _ _ | exact pm_or_in _ _ | exact pm_xor_in _ _ | exact pm_shl_in _ _ | exact pm_cmp_in _ _ | exact pm_b8_in _ | (unfold pm_inI; split <;> omega)) (fun h4 => ?_) (fun h4 => ?_)
                      · replace h4 : (c : Int) < 0 := h4
                        refine g_iconst lk_63_164 ?_
                        refine g_ireturn lk_63_165 (fun _ => by omega) ?_
                        first | exact ⟨lay5, F4.trans nf5, rfl, ft5⟩ | (exfalso; omega)
                      · replace h4 : ¬ ((c : Int) < 0) := h4
                        refine g_aload_n lk_63_153 rfl ?_
                        refine g_aload_n lk_63_154 rfl ?_
                        refine g_iload_n lk_63_155 rfl ?_
                        refine g_iconst lk_63_156 ?_
                        refine g_iadd lk_63_157 ?_
                        refine g_virtual (p := 2) (Qc := _) lk_63_158 rfl (Nat.le_of_ble_eq_true rfl) rfl rfl (lay4.on (by decide) rfl) (Nat.le_of_ble_eq_true rfl) (Nat.le_of_ble_eq_true rfl) (Nat.zero_le _) (Nat.zero_le _) (g4) ?_
                        rintro _ K5 ⟨lay5, nf5, rfl, ft5⟩
                        show Wp _ 63 161 [(2, ((2 : Nat) : Int)), (2, ((20 : Nat) : Int)), (0, (dd : Int)), (0, 0), (0, (s : Int)), (0, (c : Int))] [(0, 0)] K5 _ _ _
                        refine g_if (t := 166) lk_63_161 rfl (by first | (unfold pm_inI; omega) | exact pm_and_in _ _ | exact pm_shr_in _ _ | exact pm_or_in _ _ | exact pm_xor_in _ _ | exact pm_shl_in _ _ | exact pm_cmp_in _ _ | exact pm_b8_in _ | (unfold pm_inI; split <;> omega)) (fun h => absurd h (show ¬ (¬ (0 : Int) = (0 : Int)) by omega)) (fun _ => ?_)
                        refine g_iconst lk_63_164 ?_
                        refine g_ireturn lk_63_165 (fun _ => by omega) ?_
                        first | exact ⟨lay5, F4.trans nf5, rfl, ft5⟩ | (exfalso; omega)
                    · replace h3 : ¬ (¬ (s : Int) = 0) := h3
                      refine g_iconst lk_63_125 ?_
                      refine g_ireturn lk_63_126 (fun _ => by omega) ?_
                      first | exact ⟨lay5, F4.trans nf5, rfl, ft5⟩ | (exfalso; omega)
                  · replace h2 : ¬ ((c : Int) < 31) := h2
                    omega
              | inr y1 =>
                obtain ⟨L1, t1⟩ := y1
                obtain ⟨v1, v2, v3⟩ := pN_ok n5 f u2 k1
                have step : ∀ K4 K5 : pm_M, Lay K5 → NdF 20 M K4 → NdF 20 K4 K5 → pm_ct K4 21 c = (2 : Int) → pm_ct K4 22 c = (s : Int) → Blw M K4 20 c → TkX K5 ch t1 → pm_ct K5 20 3 = ((c + 1 + L1.length : Nat) : Int) → SgAt K5 20 (c + 1) (L1.map (fun y => y.1)) → Blw K4 K5 20 (c + 1) → Sv M K5 → Wp (d + 3) 63 166 [(2, ((2 : Nat) : Int)), (2, ((20 : Nat) : Int)), (0, (dd : Int)), (0, 0), (0, (s : Int)), (0, (c : Int))] [] K5 mc ms (fun ρ M' => Lay M' ∧ NdF 20 M M' ∧ ResX ρ M' (fun x => TkX M' ch x.2 ∧ pm_ct M' 20 3 = ((c + x.1.length : Nat) : Int) ∧ SgAt M' 20 c (x.1.map (fun y => y.1)) ∧ Blw M M' 20 c ∧ Sv M M') (pN ch n R C (f + 1) dd c q t)) := by
                  intro K4 K5 lay5 F4 F5 x1 x2 x3 tk5 ct5 sg5 bl5 sv5
                  cases k2 : pN ch n R C f (dd + 1) (c + 1 + L1.length) c t1 with
                  | inl e =>
                    rw [pN_nd2 a b g hp k1 k2]
                    refine g_aload_n lk_63_166 rfl ?_
                    refine g_getfield lk_63_167 rfl (lay5.on (by decide) rfl) (v := ((23 : Nat) : Int)) (lay5.rf rfl) ?_
                    refine g_iload lk_63_170 rfl ?_
                    refine g_aload_n lk_63_172 rfl ?_
                    refine m_getfield (u := []) (M := K5) lk_63_173 rfl (lay5.on (by decide) rfl) (v := ((c + 1 + L1.length : Nat) : Int)) ct5 ?_
                    have lay1 : Lay (Mu [(23, pm_upd (pm_ct K5 23) c ((c + 1 + L1.length : Nat) : Int))] K5) := lay5.muA (l := []) (a := 23) (f := pm_upd (pm_ct K5 23) c ((c + 1 + L1.length : Nat) : Int)) rfl rfl
                    refine m_iastore (u := []) (u' := [(23, pm_upd (pm_ct K5 23) c ((c + 1 + L1.length : Nat) : Int))]) (M := K5) lk_63_176 (lay5.ay (by decide) rfl) (by omega) (j := c) (by omega) rfl ?_
                    refine g_aload_n lk_63_177 rfl ?_
                    refine g_aload_n lk_63_178 rfl ?_
                    refine g_iload_n lk_63_179 rfl ?_
                    refine g_iconst lk_63_180 ?_
                    refine g_iadd lk_63_181 ?_
                    have fM : Fr [23] K5 (Mu [(23, pm_upd (pm_ct K5 23) c ((c + 1 + L1.length : Nat) : Int))] K5) := Fr.mu _ _ rfl
                    have F6 : NdF 20 M (Mu [(23, pm_upd (pm_ct K5 23) c ((c + 1 + L1.length : Nat) : Int))] K5) := (F4.trans F5).trans (Fr.nd3 (P := 20) fM (by omega))
                    have g5 := ih (d + 2) 0 0 (Mu [(23, pm_upd (pm_ct K5 23) c ((c + 1 + L1.length : Nat) : Int))] K5) (dd + 1) (c + 1 + L1.length) c t1 (by omega) (by omega) (by omega) lay1 (F6.tc (by omega) hM) (Fr.tk3 (P := 20) fM (by omega) tk5) v1 (by rw [F6.c (by omega) (Or.inr rfl)]; exact hR) (by rw [F6.c (by omega) (Or.inr rfl)]; exact hC) (by rw [fM.ct (by decide)]; exact ct5) (by omega)
                    rw [k2] at g5
                    refine g_virtual (p := 2) (Qc := _) lk_63_182 rfl (Nat.le_of_ble_eq_true rfl) rfl rfl (lay1.on (by decide) rfl) (Nat.le_of_ble_eq_true rfl) (Nat.le_of_ble_eq_true rfl) (Nat.zero_le _) (Nat.zero_le _) g5 ?_
                    rintro _ K7 ⟨lay7, nf7, rfl, ft7⟩
                    refine g_ireturn lk_63_185 (fun _ => by omega) ?_
                    exact ⟨lay7, F6.trans nf7, rfl, ft7⟩
                  | inr y2 =>
                    obtain ⟨L2, t2⟩ := y2
                    rw [pN_nd3 a b g hp k1 k2, ex]
                    refine g_aload_n lk_63_166 rfl ?_
                    refine g_getfield lk_63_167 rfl (lay5.on (by decide) rfl) (v := ((23 : Nat) : Int)) (lay5.rf rfl) ?_
                    refine g_iload lk_63_170 rfl ?_
                    refine g_aload_n lk_63_172 rfl ?_
                    refine m_getfield (u := []) (M := K5) lk_63_173 rfl (lay5.on (by decide) rfl) (v := ((c + 1 + L1.length : Nat) : Int)) ct5 ?_
                    have lay1 : Lay (Mu [(23, pm_upd (pm_ct K5 23) c ((c + 1 + L1.length : Nat) : Int))] K5) := lay5.muA (l := []) (a := 23) (f := pm_upd (pm_ct K5 23) c ((c + 1 + L1.length : Nat) : Int)) rfl rfl
                    refine m_iastore (u := []) (u' := [(23, pm_upd (pm_ct K5 23) c ((c + 1 + L1.length : Nat) : Int))]) (M := K5) lk_63_176 (lay5.ay (by decide) rfl) (by omega) (j := c) (by omega) rfl ?_
                    refine g_aload_n lk_63_177 rfl ?_
                    refine g_aload_n lk_63_178 rfl ?_
                    refine g_iload_n lk_63_179 rfl ?_
                    refine g_iconst lk_63_180 ?_
                    refine g_iadd lk_63_181 ?_
                    have fM : Fr [23] K5 (Mu [(23, pm_upd (pm_ct K5 23) c ((c + 1 + L1.length : Nat) : Int))] K5) := Fr.mu _ _ rfl
                    have F6 : NdF 20 M (Mu [(23, pm_upd (pm_ct K5 23) c ((c + 1 + L1.length : Nat) : Int))] K5) := (F4.trans F5).trans (Fr.nd3 (P := 20) fM (by omega))
                    have m3 : pm_ct (Mu [(23, pm_upd (pm_ct K5 23) c ((c + 1 + L1.length : Nat) : Int))] K5) 23 = pm_upd (pm_ct K5 23) c ((c + 1 + L1.length : Nat) : Int) := by rw [Mu_ct]; rfl
                    have m1 : pm_ct (Mu [(23, pm_upd (pm_ct K5 23) c ((c + 1 + L1.length : Nat) : Int))] K5) 21 = pm_ct K5 21 := fM.ct (by decide)
                    have m2 : pm_ct (Mu [(23, pm_upd (pm_ct K5 23) c ((c + 1 + L1.length : Nat) : Int))] K5) 22 = pm_ct K5 22 := fM.ct (by decide)
                    have g5 := ih (d + 2) 0 0 (Mu [(23, pm_upd (pm_ct K5 23) c ((c + 1 + L1.length : Nat) : Int))] K5) (dd + 1) (c + 1 + L1.length) c t1 (by omega) (by omega) (by omega) lay1 (F6.tc (by omega) hM) (Fr.tk3 (P := 20) fM (by omega) tk5) v1 (by rw [F6.c (by omega) (Or.inr rfl)]; exact hR) (by rw [F6.c (by omega) (Or.inr rfl)]; exact hC) (by rw [fM.ct (by decide)]; exact ct5) (by omega)
                    rw [k2] at g5
                    refine g_virtual (p := 2) (Qc := _) lk_63_182 rfl (Nat.le_of_ble_eq_true rfl) rfl rfl (lay1.on (by decide) rfl) (Nat.le_of_ble_eq_true rfl) (Nat.le_of_ble_eq_true rfl) (Nat.zero_le _) (Nat.zero_le _) g5 ?_
                    rintro _ K7 ⟨lay7, nf7, rfl, tk7, ct7, sg7, bl7, sv7⟩
                    refine g_ireturn lk_63_185 (fun _ => by omega) ?_
                    refine ⟨lay7, F6.trans nf7, rfl, tk7, ?_, ?_, ?_, (sv5.trans (fM.sv (by decide))).trans sv7⟩
                    · show pm_ct K7 20 3 = ((c + (L1 ++ L2).length.succ : Nat) : Int)
                      rw [List.length_append, show c + (L1.length + L2.length).succ = c + 1 + L1.length + L2.length by omega]
                      exact ct7
                    · rw [List.map_cons, List.map_append]
                      exact SgAt.join (P := 20) x1 x2 bl5 sg5 m1 m2 m3 (by rw [List.length_map]; exact bl7) (by rw [List.length_map]; exact sg7)
                    · exact ((x3.trans bl5 (by omega)).trans (Blw.put (P := 20) m1 m2 m3) (Nat.le_refl _)).trans bl7 (by omega)
                clear w1 w2 w3 w4 w5
                have hp' := hp
                rw [em] at hp'
                refine g_aload_n lk_63_0 rfl ?_
                refine m_getfield (u := []) (M := M) lk_63_1 rfl (lay.on (by decide) rfl) (v := 1) f10' ?_
                refine g_iconst lk_63_4 ?_
                refine g_icmp (t := 33) lk_63_5 rfl (by first | (unfold pm_inI; omega) | exact pm_and_in _ _ | exact pm_shr_in _ _ | exact pm_or_in _ _ | exact pm_xor_in _ _ | exact pm_shl_in _ _ | exact pm_cmp_in _ _ | exact pm_b8_in _ | (unfold pm_inI; split <;> omega)) (by first | (unfold pm_inI; omega) | exact pm_and_in _ _ | exact pm_shr_in _ _ | exact pm_or_in _ _ | exact pm_xor_in _ _ | exact pm_shl_in _ _ | exact pm_cmp_in _ _ | exact pm_b8_in _ | (unfold pm_inI; split <;> omega)) (fun h => absurd h (show ¬ (¬ (1 : Int) = (1 : Int)) by omega)) (fun _ => ?_)
                refine g_aload_n lk_63_8 rfl ?_
                refine m_getfield (u := []) (M := M) lk_63_9 rfl (lay.on (by decide) rfl) (v := 2) f13x ?_
                refine g_ldc lk_63_12 ?_
                refine g_icmp (t := 39) lk_63_14 rfl (by first | (unfold pm_inI; omega) | exact pm_and_in _ _ | exact pm_shr_in _ _ | exact pm_or_in _ _ | exact pm_xor_in _ _ | exact pm_shl_in _ _ | exact pm_cmp_in _ _ | exact pm_b8_in _ | (unfold pm_inI; split <;> omega)) (by first | (unfold pm_inI; omega) | exact pm_and_in _ _ | exact pm_shr_in _ _ | exact pm_or_in _ _ | exact pm_xor_in _ _ | exact pm_shl_in _ _ | exact pm_cmp_in _ _ | exact pm_b8_in _ | (unfold pm_inI; split <;> omega)) (fun h => absurd h (show ¬ ((2 : Int) = (239874 : Int)) by omega)) (fun _ => ?_)
                refine g_aload_n lk_63_17 rfl ?_
                refine m_getfield (u := []) (M := M) lk_63_18 rfl (lay.on (by decide) rfl) (v := 2) f13x ?_
                refine g_iconst lk_63_21 ?_
                refine g_icmp (t := 39) lk_63_22 rfl (by first | (unfold pm_inI; omega) | exact pm_and_in _ _ | exact pm_shr_in _ _ | exact pm_or_in _ _ | exact pm_xor_in _ _ | exact pm_shl_in _ _ | exact pm_cmp_in _ _ | exact pm_b8_in _ | (unfold pm_inI; split <;> omega)) (by first | (unfold pm_inI; omega) | exact pm_and_in _ _ | exact pm_shr_in _ _ | exact pm_or_in _ _ | exact pm_xor_in _ _ | exact pm_shl_in _ _ | exact pm_cmp_in _ _ | exact pm_b8_in _ | (unfold pm_inI; split <;> omega)) (fun h => absurd h (show ¬ ((2 : Int) = (1 : Int)) by omega)) (fun _ => ?_)
                refine g_aload_n lk_63_25 rfl ?_
                refine m_getfield (u := []) (M := M) lk_63_26 rfl (lay.on (by decide) rfl) (v := 2) f13x ?_
                refine g_iconst lk_63_29 ?_
                refine g_icmp (t := 39) lk_63_30 rfl (by first | (unfold pm_inI; omega) | exact pm_and_in _ _ | exact pm_shr_in _ _ | exact pm_or_in _ _ | exact pm_xor_in _ _ | exact pm_shl_in _ _ | exact pm_cmp_in _ _ | exact pm_b8_in _ | (unfold pm_inI; split <;> omega)) (by first | (unfold pm_inI; omega) | exact pm_and_in _ _ | exact pm_shr_in _ _ | exact pm_or_in _ _ | exact pm_xor_in _ _ | exact pm_shl_in _ _ | exact pm_cmp_in _ _ | exact pm_b8_in _ | (unfold pm_inI; split <;> omega)) (fun _ => ?_) (fun h => absurd (show (2 : Int) = (2 : Int) by omega) h)
                refine g_iload_n lk_63_39 rfl ?_
                refine g_bipush lk_63_40 ?_
                refine g_icmp (t := 54) lk_63_42 rfl (by first | (unfold pm_inI; omega) | exact pm_and_in _ _ | exact pm_shr_in _ _ | exact pm_or_in _ _ | exact pm_xor_in _ _ | exact pm_shl_in _ _ | exact pm_cmp_in _ _ | exact pm_b8_in _ | (unfold pm_inI; split <;> omega)) (by first | (unfold pm_inI; omega) | exact pm_and_in _ _ | exact pm_shr_in _ _ | exact pm_or_in _ _ | exact pm_xor_in _ _ | exact pm_shl_in _ _ | exact pm_cmp_in _ _ | exact pm_b8_in _ | (unfold pm_inI; split <;> omega)) (fun h1 => ?_) (fun h1 => ?_)
                · replace h1 : 9 ≤ (dd : Int) := h1
                  omega
                · replace h1 : ¬ (9 ≤ (dd : Int)) := h1
                  refine g_aload_n lk_63_45 rfl ?_
                  refine m_getfield (u := []) (M := M) lk_63_46 rfl (lay.on (by decide) rfl) (v := (c : Int)) hc ?_
                  refine g_bipush lk_63_49 ?_
                  refine g_icmp (t := 60) lk_63_51 rfl (by first | (unfold pm_inI; omega) | exact pm_and_in _ _ | exact pm_shr_in _ _ | exact pm_or_in _ _ | exact pm_xor_in _ _ | exact pm_shl_in _ _ | exact pm_cmp_in _ _ | exact pm_b8_in _ | (unfold pm_inI; split <;> omega)) (by first | (unfold pm_inI; omega) | exact pm_and_in _ _ | exact pm_shr_in _ _ | exact pm_or_in _ _ | exact pm_xor_in _ _ | exact pm_shl_in _ _ | exact pm_cmp_in _ _ | exact pm_b8_in _ | (unfold pm_inI; split <;> omega)) (fun h2 => ?_) (fun h2 => ?_)
                  · replace h2 : (c : Int) < 31 := h2
                    refine g_aload_n lk_63_60 rfl ?_
                    refine m_getfield (u := []) (M := M) lk_63_61 rfl (lay.on (by decide) rfl) (v := 2) f13x ?_
                    refine g_ldc lk_63_64 ?_
                    refine g_icmp (t := 75) lk_63_66 rfl (by first | (unfold pm_inI; omega) | exact pm_and_in _ _ | exact pm_shr_in _ _ | exact pm_or_in _ _ | exact pm_xor_in _ _ | exact pm_shl_in _ _ | exact pm_cmp_in _ _ | exact pm_b8_in _ | (unfold pm_inI; split <;> omega)) (by first | (unfold pm_inI; omega) | exact pm_and_in _ _ | exact pm_shr_in _ _ | exact pm_or_in _ _ | exact pm_xor_in _ _ | exact pm_shl_in _ _ | exact pm_cmp_in _ _ | exact pm_b8_in _ | (unfold pm_inI; split <;> omega)) (fun _ => ?_) (fun h => absurd (show ¬ (2 : Int) = (239874 : Int) by omega) h)
                    refine g_aload_n lk_63_75 rfl ?_
                    refine m_getfield (u := []) (M := M) lk_63_76 rfl (lay.on (by decide) rfl) (v := 2) f13x ?_
                    refine g_iconst lk_63_79 ?_
                    refine g_icmp (t := 87) lk_63_80 rfl (by first | (unfold pm_inI; omega) | exact pm_and_in _ _ | exact pm_shr_in _ _ | exact pm_or_in _ _ | exact pm_xor_in _ _ | exact pm_shl_in _ _ | exact pm_cmp_in _ _ | exact pm_b8_in _ | (unfold pm_inI; split <;> omega)) (by first | (unfold pm_inI; omega) | exact pm_and_in _ _ | exact pm_shr_in _ _ | exact pm_or_in _ _ | exact pm_xor_in _ _ | exact pm_shl_in _ _ | exact pm_cmp_in _ _ | exact pm_b8_in _ | (unfold pm_inI; split <;> omega)) (fun _ => ?_) (fun h => absurd (show ¬ (2 : Int) = (1 : Int) by omega) h)
                    refine g_iconst lk_63_87 ?_
                    refine g_istore_n (ls' := [(2, ((2 : Nat) : Int)), (2, ((20 : Nat) : Int)), (0, (dd : Int)), (0, 0), (9, 0), (9, 0)]) lk_63_88 rfl rfl ?_
                    refine g_aload_n lk_63_89 rfl ?_
                    refine g_virtual (p := 2) (Qc := _) lk_63_90 rfl (Nat.le_of_ble_eq_true rfl) rfl rfl (lay.on (by decide) rfl) (Nat.le_of_ble_eq_true rfl) (Nat.le_of_ble_eq_true rfl) (Nat.zero_le _) (Nat.zero_le _) (ad) ?_
                    rintro _ K1 ⟨rfl, lay1, rd1, tk1⟩
                    have f4 : pm_ct K1 4 2 = (C : Int) := (by rw [rd1.1.ct (by decide)]; exact hC)
                    have hc1 : pm_ct K1 20 3 = (c : Int) := (by rw [rd1.1.ct (by decide)]; exact hc)
                    show Wp _ 63 93 [(2, ((2 : Nat) : Int)), (2, ((20 : Nat) : Int)), (0, (dd : Int)), (0, 0), (9, 0), (9, 0)] [] K1 _ _ _
                    refine g_aload_n lk_63_93 rfl ?_
                    refine g_iload_n lk_63_94 rfl ?_
                    refine g_if (t := 108) lk_63_95 rfl (by first | (unfold pm_inI; omega) | exact pm_and_in _ _ | exact pm_shr_in _ _ | exact pm_or_in _ _ | exact pm_xor_in _ _ | exact pm_shl_in _ _ | exact pm_cmp_in _ _ | exact pm_b8_in _ | (unfold pm_inI; split <;> omega)) (fun _ => ?_) (fun h => absurd (show (0 : Int) = (0 : Int) by omega) h)
                    refine g_aload_n lk_63_108 rfl ?_
                    refine g_getfield lk_63_109 rfl (lay1.on (by decide) rfl) (v := ((4 : Nat) : Int)) (lay1.rf rfl) ?_
                    refine m_getfield (u := []) (M := K1) lk_63_112 rfl (lay1.on (by decide) rfl) (v := (C : Int)) f4 ?_
                    refine g_virtual (p := 2) (Qc := _) lk_63_115 rfl (Nat.le_of_ble_eq_true rfl) rfl rfl (lay1.on (by decide) rfl) (Nat.le_of_ble_eq_true rfl) (Nat.le_of_ble_eq_true rfl) (Nat.zero_le _) (Nat.zero_le _) (c_Reader_readSet (d := d + 1) (mc := 0) (ms := 0) lay1 (hM.rd rd1) tk1 u1 c6) ?_
                    rintro ρ2 K2 ⟨lay2, re2, o2⟩
                    obtain ⟨s1, s2, rfl, eK⟩ := set_inr hp' o2
                    rw [eK]
                    show Wp _ 63 118 [(2, ((2 : Nat) : Int)), (2, ((20 : Nat) : Int)), (0, (dd : Int)), (0, 0), (9, 0), (9, 0)] [(0, (s : Int))] K1 _ _ _
                    refine g_istore (ls' := [(2, ((2 : Nat) : Int)), (2, ((20 : Nat) : Int)), (0, (dd : Int)), (0, 0), (0, (s : Int)), (9, 0)]) lk_63_118 rfl rfl ?_
                    refine g_iload lk_63_120 rfl ?_
                    refine g_if (t := 127) lk_63_122 rfl (by first | (unfold pm_inI; omega) | exact pm_and_in _ _ | exact pm_shr_in _ _ | exact pm_or_in _ _ | exact pm_xor_in _ _ | exact pm_shl_in _ _ | exact pm_cmp_in _ _ | exact pm_b8_in _ | (unfold pm_inI; split <;> omega)) (fun h3 => ?_) (fun h3 => ?_)
                    · replace h3 : ¬ (s : Int) = 0 := h3
                      refine g_aload_n lk_63_127 rfl ?_
                      refine g_iload_n lk_63_128 rfl ?_
                      refine g_if (t := 136) lk_63_129 rfl (by first | (unfold pm_inI; omega) | exact pm_and_in _ _ | exact pm_shr_in _ _ | exact pm_or_in _ _ | exact pm_xor_in _ _ | exact pm_shl_in _ _ | exact pm_cmp_in _ _ | exact pm_b8_in _ | (unfold pm_inI; split <;> omega)) (fun _ => ?_) (fun h => absurd (show (0 : Int) = (0 : Int) by omega) h)
                      refine g_iconst lk_63_136 ?_
                      refine g_iload lk_63_137 rfl ?_
                      refine g_virtual (p := 20) (Qc := _) lk_63_139 rfl (Nat.le_of_ble_eq_true rfl) rfl rfl (lay1.on (by decide) rfl) (Nat.le_of_ble_eq_true rfl) (Nat.le_of_ble_eq_true rfl) (Nat.zero_le _) (Nat.zero_le _) (c_Nodes_addR3 (d := d + 2) (mc := 0) (ms := 0) (x := 2) (y := s) lay1 hc1 c30) ?_
                      rintro _ K3 ⟨rfl, lay3, ax⟩
                      have tc3 := (ax.nd (by omega)).tc (by omega) (hM.rd rd1)
                      have ad3 := c_Reader_advance (d := d + 1) (mc := 0) (ms := 0) lay3 tc3 (ax.tk (by omega) tk1).2.2.2.1 u1.2.2.1
                      show Wp _ 63 142 [(2, ((2 : Nat) : Int)), (2, ((20 : Nat) : Int)), (0, (dd : Int)), (0, 0), (0, (s : Int)), (9, 0)] [(0, (c : Int))] K3 _ _ _
                      refine g_istore (ls' := [(2, ((2 : Nat) : Int)), (2, ((20 : Nat) : Int)), (0, (dd : Int)), (0, 0), (0, (s : Int)), (0, (c : Int))]) lk_63_142 rfl rfl ?_
                      refine g_aload_n lk_63_144 rfl ?_
                      refine g_virtual (p := 2) (Qc := _) lk_63_145 rfl (Nat.le_of_ble_eq_true rfl) rfl rfl (lay3.on (by decide) rfl) (Nat.le_of_ble_eq_true rfl) (Nat.le_of_ble_eq_true rfl) (Nat.zero_le _) (Nat.zero_le _) (ad3) ?_
                      rintro _ K4 ⟨rfl, lay4, rd4, tk4⟩
                      have F4 : NdF 20 M K4 := (rd1.re.nd.trans (ax.nd (by omega))).trans rd4.re.nd
                      have x3 : Blw M K4 20 c := ((rd1.blw (by omega)).trans ax.blw (Nat.le_refl _)).trans (rd4.blw (c := c) (by omega)) (Nat.le_refl _)
                      have x1 : pm_ct K4 21 c = (2 : Int) := (by rw [rd4.1.ct (by decide)]; exact ax.at.1)
                      have x2 : pm_ct K4 22 c = (s : Int) := (by rw [rd4.1.ct (by decide)]; exact ax.at.2.1)
                      have sv4 : Sv M K4 := (rd1.sv.trans (ax.1.sv (by decide))).trans rd4.sv
                      have g4 := ih (d + 2) 0 0 K4 (dd + 1) (c + 1) c _ (by omega) (by omega) (by omega) lay4 (tc3.rd rd4) tk4 u2 (by rw [F4.c (by omega) (Or.inr rfl)]; exact hR) (by rw [F4.c (by omega) (Or.inr rfl)]; exact hC) (by rw [rd4.1.ct (by decide)]; exact ax.2.1) (by omega)
                      rw [k1] at g4
                      show Wp _ 63 148 [(2, ((2 : Nat) : Int)), (2, ((20 : Nat) : Int)), (0, (dd : Int)), (0, 0), (0, (s : Int)), (0, (c : Int))] [] K4 _ _ _
                      refine g_iload lk_63_148 rfl ?_
                      refine g_if (t := 164) lk_63_150 rfl (by first | (unfold pm_inI; omega) | exact pm_and_in _ _ | exact pm_shr_in _ _ | exact pm_or_in _ _ | exact pm_xor_in _ _ | exact pm_shl_in _ _ | exact pm_cmp_in _ _ | exact pm_b8_in _ | (unfold pm_inI; split <;> omega)) (fun h4 => ?_) (fun h4 => ?_)
                      · replace h4 : (c : Int) < 0 := h4
                        omega
                      · replace h4 : ¬ ((c : Int) < 0) := h4
                        refine g_aload_n lk_63_153 rfl ?_
                        refine g_aload_n lk_63_154 rfl ?_
                        refine g_iload_n lk_63_155 rfl ?_
                        refine g_iconst lk_63_156 ?_
                        refine g_iadd lk_63_157 ?_
                        refine g_virtual (p := 2) (Qc := _) lk_63_158 rfl (Nat.le_of_ble_eq_true rfl) rfl rfl (lay4.on (by decide) rfl) (Nat.le_of_ble_eq_true rfl) (Nat.le_of_ble_eq_true rfl) (Nat.zero_le _) (Nat.zero_le _) (g4) ?_
                        rintro _ K5 ⟨lay5, nf5, rfl, tk5, ct5, sg5, bl5, sv5⟩
                        show Wp _ 63 161 [(2, ((2 : Nat) : Int)), (2, ((20 : Nat) : Int)), (0, (dd : Int)), (0, 0), (0, (s : Int)), (0, (c : Int))] [(0, 1)] K5 _ _ _
                        refine g_if (t := 166) lk_63_161 rfl (by first | (unfold pm_inI; omega) | exact pm_and_in _ _ | exact pm_shr_in _ _ | exact pm_or_in _ _ | exact pm_xor_in _ _ | exact pm_shl_in _ _ | exact pm_cmp_in _ _ | exact pm_b8_in _ | (unfold pm_inI; split <;> omega)) (fun _ => ?_) (fun h => absurd (show ¬ (1 : Int) = (0 : Int) by omega) h)
                        exact step K4 K5 lay5 F4 nf5 x1 x2 x3 tk5 ct5 sg5 bl5 (sv4.trans sv5)
                    · replace h3 : ¬ (¬ (s : Int) = 0) := h3
                      refine g_iconst lk_63_125 ?_
                      refine g_ireturn lk_63_126 (fun _ => by omega) ?_
                      omega
                  · replace h2 : ¬ ((c : Int) < 31) := h2
                    omega
    · rw [pN_no a]
      clear ih
      by_cases e : t.1 = 1
      · have f10' : pm_ct M 2 10 = 1 := by rw [f10, e]; rfl
        obtain ⟨w1, w2, w3, w4, w5⟩ := w27_con (hK.lt e)
        have f13' : pm_ct M 2 13 = ((nr 27 (twd ch t) : Nat) : Int) := f13 e
        obtain ⟨w, hw⟩ : ∃ w, w = nr 27 (twd ch t) := ⟨_, rfl⟩
        have ws : w < 1073741824 := by rw [hw]; exact nr_small (b := 27) (by omega) (by omega) (hK.lt e)
        rw [← hw] at f13' w1 w2 w5
        have n1 : ¬ (w : Int) = 1 := fun k => a ⟨e, Or.inr (Or.inl (w1.mp k))⟩
        have n2 : ¬ (w : Int) = 2 := fun k => a ⟨e, Or.inr (Or.inr (w2.mp k))⟩
        have n3 : ¬ (w : Int) = 239874 := fun k => a ⟨e, Or.inl (w5.mp k)⟩
        clear w1 w2 w3 w4 w5 a
        refine g_aload_n lk_63_0 rfl ?_
        refine m_getfield (u := []) (M := M) lk_63_1 rfl (lay.on (by decide) rfl) (v := 1) f10' ?_
        refine g_iconst lk_63_4 ?_
        refine g_icmp (t := 33) lk_63_5 rfl (by first | (unfold pm_inI; omega) | exact pm_and_in _ _ | exact pm_shr_in _ _ | exact pm_or_in _ _ | exact pm_xor_in _ _ | exact pm_shl_in _ _ | exact pm_cmp_in _ _ | exact pm_b8_in _ | (unfold pm_inI; split <;> omega)) (by first | (unfold pm_inI; omega) | exact pm_and_in _ _ | exact pm_shr_in _ _ | exact pm_or_in _ _ | exact pm_xor_in _ _ | exact pm_shl_in _ _ | exact pm_cmp_in _ _ | exact pm_b8_in _ | (unfold pm_inI; split <;> omega)) (fun h => absurd h (show ¬ (¬ (1 : Int) = (1 : Int)) by omega)) (fun _ => ?_)
        refine g_aload_n lk_63_8 rfl ?_
        refine m_getfield (u := []) (M := M) lk_63_9 rfl (lay.on (by decide) rfl) (v := (w : Int)) f13' ?_
        refine g_ldc lk_63_12 ?_
        refine g_icmp (t := 39) lk_63_14 rfl (by first | (unfold pm_inI; omega) | exact pm_and_in _ _ | exact pm_shr_in _ _ | exact pm_or_in _ _ | exact pm_xor_in _ _ | exact pm_shl_in _ _ | exact pm_cmp_in _ _ | exact pm_b8_in _ | (unfold pm_inI; split <;> omega)) (by first | (unfold pm_inI; omega) | exact pm_and_in _ _ | exact pm_shr_in _ _ | exact pm_or_in _ _ | exact pm_xor_in _ _ | exact pm_shl_in _ _ | exact pm_cmp_in _ _ | exact pm_b8_in _ | (unfold pm_inI; split <;> omega)) (fun h1 => ?_) (fun h1 => ?_)
        · replace h1 : (w : Int) = 239874 := h1
          omega
        · replace h1 : ¬ ((w : Int) = 239874) := h1
          refine g_aload_n lk_63_17 rfl ?_
          refine m_getfield (u := []) (M := M) lk_63_18 rfl (lay.on (by decide) rfl) (v := (w : Int)) f13' ?_
          refine g_iconst lk_63_21 ?_
          refine g_icmp (t := 39) lk_63_22 rfl (by first | (unfold pm_inI; omega) | exact pm_and_in _ _ | exact pm_shr_in _ _ | exact pm_or_in _ _ | exact pm_xor_in _ _ | exact pm_shl_in _ _ | exact pm_cmp_in _ _ | exact pm_b8_in _ | (unfold pm_inI; split <;> omega)) (by first | (unfold pm_inI; omega) | exact pm_and_in _ _ | exact pm_shr_in _ _ | exact pm_or_in _ _ | exact pm_xor_in _ _ | exact pm_shl_in _ _ | exact pm_cmp_in _ _ | exact pm_b8_in _ | (unfold pm_inI; split <;> omega)) (fun h2 => ?_) (fun h2 => ?_)
          · replace h2 : (w : Int) = 1 := h2
            omega
          · replace h2 : ¬ ((w : Int) = 1) := h2
            refine g_aload_n lk_63_25 rfl ?_
            refine m_getfield (u := []) (M := M) lk_63_26 rfl (lay.on (by decide) rfl) (v := (w : Int)) f13' ?_
            refine g_iconst lk_63_29 ?_
            refine g_icmp (t := 39) lk_63_30 rfl (by first | (unfold pm_inI; omega) | exact pm_and_in _ _ | exact pm_shr_in _ _ | exact pm_or_in _ _ | exact pm_xor_in _ _ | exact pm_shl_in _ _ | exact pm_cmp_in _ _ | exact pm_b8_in _ | (unfold pm_inI; split <;> omega)) (by first | (unfold pm_inI; omega) | exact pm_and_in _ _ | exact pm_shr_in _ _ | exact pm_or_in _ _ | exact pm_xor_in _ _ | exact pm_shl_in _ _ | exact pm_cmp_in _ _ | exact pm_b8_in _ | (unfold pm_inI; split <;> omega)) (fun h3 => ?_) (fun h3 => ?_)
            · replace h3 : (w : Int) = 2 := h3
              omega
            · replace h3 : ¬ ((w : Int) = 2) := h3
              refine g_aload_n lk_63_33 rfl ?_
              refine g_iconst lk_63_34 ?_
              refine g_virtual (p := 2) (Qc := _) lk_63_35 rfl (Nat.le_of_ble_eq_true rfl) rfl rfl (lay.on (by decide) rfl) (Nat.le_of_ble_eq_true rfl) (Nat.le_of_ble_eq_true rfl) (Nat.zero_le _) (Nat.zero_le _) (rf2) ?_
              rintro _ K1 ⟨rfl, lay1, re1, ft1⟩
              show Wp _ 63 38 [(2, ((2 : Nat) : Int)), (2, ((20 : Nat) : Int)), (0, (dd : Int)), (9, 0), (9, 0), (9, 0)] [(0, 0)] K1 _ _ _
              refine g_ireturn lk_63_38 (fun _ => by omega) ?_
              exact ⟨lay1, re1.nd, rfl, ft1⟩
      · obtain ⟨K, hk⟩ : ∃ K, K = t.1 := ⟨_, rfl⟩
        rw [← hk] at f10 t4 e
        clear a
        refine g_aload_n lk_63_0 rfl ?_
        refine m_getfield (u := []) (M := M) lk_63_1 rfl (lay.on (by decide) rfl) (v := (K : Int)) f10 ?_
        refine g_iconst lk_63_4 ?_
        refine g_icmp (t := 33) lk_63_5 rfl (by first | (unfold pm_inI; omega) | exact pm_and_in _ _ | exact pm_shr_in _ _ | exact pm_or_in _ _ | exact pm_xor_in _ _ | exact pm_shl_in _ _ | exact pm_cmp_in _ _ | exact pm_b8_in _ | (unfold pm_inI; split <;> omega)) (by first | (unfold pm_inI; omega) | exact pm_and_in _ _ | exact pm_shr_in _ _ | exact pm_or_in _ _ | exact pm_xor_in _ _ | exact pm_shl_in _ _ | exact pm_cmp_in _ _ | exact pm_b8_in _ | (unfold pm_inI; split <;> omega)) (fun h1 => ?_) (fun h1 => ?_)
        · replace h1 : ¬ (K : Int) = 1 := h1
          refine g_aload_n lk_63_33 rfl ?_
          refine g_iconst lk_63_34 ?_
          refine g_virtual (p := 2) (Qc := _) lk_63_35 rfl (Nat.le_of_ble_eq_true rfl) rfl rfl (lay.on (by decide) rfl) (Nat.le_of_ble_eq_true rfl) (Nat.le_of_ble_eq_true rfl) (Nat.zero_le _) (Nat.zero_le _) (rf2) ?_
          rintro _ K1 ⟨rfl, lay1, re1, ft1⟩
          show Wp _ 63 38 [(2, ((2 : Nat) : Int)), (2, ((20 : Nat) : Int)), (0, (dd : Int)), (9, 0), (9, 0), (9, 0)] [(0, 0)] K1 _ _ _
          refine g_ireturn lk_63_38 (fun _ => by omega) ?_
          exact ⟨lay1, re1.nd, rfl, ft1⟩
        · replace h1 : ¬ (¬ (K : Int) = 1) := h1
          omega
