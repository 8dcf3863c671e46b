/-! ===== the model: what comes to the nodes ===== -/
def CoAt (M : pm_M) (T : Tab) (L : List Nd) (p : Nat → Nat) (i : Nat) : Prop := ∀ k, k < L.length → (k = 0 ∨ p k < i) → pm_ct M 153 k = ((CM T L p k).1 : Int) ∧ pm_ct M 154 k = ((CM T L p k).2.1 : Int)
theorem co_stp {T : Tab} {L : List Nd} {p dp : Nat → Nat} (hD : TrD L dp) (hp : PaOK L p) {i q : Nat} (hi : i < L.length) (h0 : (ndA L i).1 ≠ 0) (hq : q = (ndA L i).2.2.toNat) {M N : pm_M} {a b a' b' : Int} (h : CoAt M T L p i)
    (e1 : pm_ct N 153 = pm_upd (pm_upd (pm_ct M 153) (i + 1) a) q a') (e2 : pm_ct N 154 = pm_upd (pm_upd (pm_ct M 154) (i + 1) b) q b')
    (va : a = ((dStp T (ndA L i).1 (ndA L i).2.1 true (CM T L p i)).1 : Int)) (vb : b = ((dStp T (ndA L i).1 (ndA L i).2.1 true (CM T L p i)).2.1 : Int)) (va' : a' = ((dStp T (ndA L i).1 (ndA L i).2.1 false (CM T L p i)).1 : Int)) (vb' : b' = ((dStp T (ndA L i).1 (ndA L i).2.1 false (CM T L p i)).2.1 : Int)) : CoAt N T L p (i + 1) := by
  obtain ⟨_, g2, g3, g4, _, _⟩ := (hD.2.2.2 i hi).2.2.2 h0
  have q1 : i + 1 < q := by omega
  intro k hk ho
  rw [e1, e2]
  by_cases x : k = q
  · rw [x, pm_upd_eq, pm_upd_eq, hq, CM_2 hD hp hi h0]; exact ⟨va', vb'⟩
  by_cases y : k = i + 1
  · rw [y, pm_upd_ne (show i + 1 ≠ q by omega), pm_upd_ne (show i + 1 ≠ q by omega), pm_upd_eq, pm_upd_eq, CM_1 hD hp hi h0]; exact ⟨va, vb⟩
  · rw [pm_upd_ne x, pm_upd_ne x, pm_upd_ne y, pm_upd_ne y]
    refine h k hk ?_
    by_cases z : k = 0
    · exact Or.inl z
    · refine Or.inr ?_
      obtain ⟨p1, _, p3⟩ := hp.2 k (by omega) hk
      have : p k ≠ i := fun e => by
        rw [e] at p3
        rcases p3 with w | w
        · exact y w
        · exact x (by rw [w, hq])
      rcases ho with o | o
      · exact absurd o z
      · omega
theorem co_leaf {T : Tab} {L : List Nd} {p : Nat → Nat} (hp : PaOK L p) {i : Nat} (h0 : (ndA L i).1 = 0) {M : pm_M} (h : CoAt M T L p i) : CoAt M T L p (i + 1) := by
  intro k hk ho
  refine h k hk ?_
  by_cases z : k = 0
  · exact Or.inl z
  · refine Or.inr ?_
    obtain ⟨p1, p2, _⟩ := hp.2 k (by omega) hk
    have : p k ≠ i := fun e => p2 (by rw [e]; exact h0)
    rcases ho with o | o
    · exact absurd o z
    · omega
set_option maxHeartbeats 8000000 in
theorem c_Mo_layComers {d mc ms : Nat} {M : pm_M} (lay0 : Lay M) {T : Tab} (hT : TabOK T) (hM0 : MoAt M T) {L : List Nd} {p dp : Nat → Nat} (hD : TrD L dp) (hp : PaOK L p) {t : Nat} (t4 : t < 4) (hL0 : TrM M t L) :
    pm_E (d + 1) 253 [(2, ((116 : Nat) : Int)), (0, (t : Int))] M mc ms (fun ρ M' => ρ = none ∧ Lay M' ∧ MF [153, 154] [] M M' ∧ CoAt M' T L p L.length) := by
  obtain ⟨Q, hQ⟩ : ∃ Q : pm_Q, Q = (fun ρ M' => ρ = none ∧ Lay M' ∧ MF [153, 154] [] M M' ∧ CoAt M' T L p L.length) := ⟨_, rfl⟩
  rw [← hQ]
  have l31 := hD.2.1
  obtain ⟨b, hb⟩ : ∃ b, b = 31 * t := ⟨_, rfl⟩
  obtain ⟨l, hl⟩ : ∃ l, l = L.length := ⟨_, rfl⟩
  have nm := hL0.1
  rw [← hl] at nm l31
  have loop : ∀ (n i : Nat) (v4 v5 v6 : pm_V) (N : pm_M), i + n = l → Lay N → MF [153, 154] [] M N → CoAt N T L p i → Wp (d + 1) 253 27 [(2, ((116 : Nat) : Int)), (0, (t : Int)), (0, (b : Int)), (0, (i : Int)), v4, v5, v6] [] N mc ms Q := by
    intro n
    induction n with
    | zero =>
      intro i v4 v5 v6 N hi lay mf hc
      have nN : pm_ct N 122 t = (l : Int) := by rw [mf.ct (by decide) (by decide)]; exact nm
      have e : i = l := by omega
      subst e
      refine g_iload_n lk_253_27 rfl ?_
      refine g_aload_n lk_253_28 rfl ?_
      refine g_getfield lk_253_29 rfl (lay.on (by decide) rfl) (v := ((122 : Nat) : Int)) (lay.rf rfl) ?_
      refine g_iload_n lk_253_32 rfl ?_
      refine m_iaload (u := []) (M := N) lk_253_33 (lay.ay (by decide) rfl) (by omega) (j := t) (by omega) (v := (i : Int)) nN ?_
      refine g_icmp (t := 211) lk_253_34 rfl (by first | (unfold pm_inI; omega) | exact pm_and_in _ _ | exact pm_shr_in _ _ | exact pm_or_in _ _ | exact pm_xor_in _ _ | exact pm_shl_in _ _ | exact pm_cmp_in _ _ | exact pm_b8_in _ | (unfold pm_inI; split <;> omega)) (by first | (unfold pm_inI; omega) | exact pm_and_in _ _ | exact pm_shr_in _ _ | exact pm_or_in _ _ | exact pm_xor_in _ _ | exact pm_shl_in _ _ | exact pm_cmp_in _ _ | exact pm_b8_in _ | (unfold pm_inI; split <;> omega)) (fun h1 => ?_) (fun h1 => ?_)
      · replace h1 : (i : Int) ≤ (i : Int) := h1
        refine g_return lk_253_211 ?_
        rw [hQ]
        exact ⟨rfl, lay, mf, by rw [← hl]; exact hc⟩
      · replace h1 : ¬ ((i : Int) ≤ (i : Int)) := h1
        omega
    | succ n ih =>
      intro i v4 v5 v6 N hi lay mf hc
      have nN : pm_ct N 122 t = (l : Int) := by rw [mf.ct (by decide) (by decide)]; exact nm
      have hk : i < L.length := by omega
      obtain ⟨a1, a2, _, a4⟩ := hD.2.2.2 i hk
      obtain ⟨y1, y2, y3⟩ := hL0.2 i hk
      rw [← hb] at y1 y2 y3
      obtain ⟨j, hj⟩ : ∃ j, j = b + i := ⟨_, rfl⟩
      have ej : (b : Int) + (i : Int) = (j : Int) := by omega
      rw [← hj] at y1 y2 y3
      have y1N : pm_ct N 123 j = ((ndA L i).1 : Int) := by rw [mf.ct (by decide) (by decide)]; exact y1
      by_cases h0 : (ndA L i).1 = 0
      · have y1' : pm_ct N 123 j = 0 := by rw [y1N, h0]; rfl
        refine g_iload_n lk_253_27 rfl ?_
        refine g_aload_n lk_253_28 rfl ?_
        refine g_getfield lk_253_29 rfl (lay.on (by decide) rfl) (v := ((122 : Nat) : Int)) (lay.rf rfl) ?_
        refine g_iload_n lk_253_32 rfl ?_
        refine m_iaload (u := []) (M := N) lk_253_33 (lay.ay (by decide) rfl) (by omega) (j := t) (by omega) (v := (l : Int)) nN ?_
        refine g_icmp (t := 211) lk_253_34 rfl (by first | (unfold pm_inI; omega) | exact pm_and_in _ _ | exact pm_shr_in _ _ | exact pm_or_in _ _ | exact pm_xor_in _ _ | exact pm_shl_in _ _ | exact pm_cmp_in _ _ | exact pm_b8_in _ | (unfold pm_inI; split <;> omega)) (by first | (unfold pm_inI; omega) | exact pm_and_in _ _ | exact pm_shr_in _ _ | exact pm_or_in _ _ | exact pm_xor_in _ _ | exact pm_shl_in _ _ | exact pm_cmp_in _ _ | exact pm_b8_in _ | (unfold pm_inI; split <;> omega)) (fun h1 => ?_) (fun h1 => ?_)
        · replace h1 : (l : Int) ≤ (i : Int) := h1
          omega
        · replace h1 : ¬ ((l : Int) ≤ (i : Int)) := h1
          refine g_aload_n lk_253_37 rfl ?_
          refine g_getfield lk_253_38 rfl (lay.on (by decide) rfl) (v := ((123 : Nat) : Int)) (lay.rf rfl) ?_
          refine g_iload_n lk_253_41 rfl ?_
          refine g_iload_n lk_253_42 rfl ?_
          refine g_iadd lk_253_43 ?_
          refine g_top (z := ((b : Int) + (i : Int))) (z' := (j : Int)) (ej) ?_
          refine m_iaload (u := []) (M := N) lk_253_44 (lay.ay (by decide) rfl) (by omega) (j := j) (by omega) (v := 0) y1' ?_
          refine g_istore (ls' := [(2, ((116 : Nat) : Int)), (0, (t : Int)), (0, (b : Int)), (0, (i : Int)), (0, 0), v5, v6]) lk_253_45 rfl rfl ?_
          refine g_iload lk_253_47 rfl ?_
          refine g_if (t := 55) lk_253_49 rfl (by first | (unfold pm_inI; omega) | exact pm_and_in _ _ | exact pm_shr_in _ _ | exact pm_or_in _ _ | exact pm_xor_in _ _ | exact pm_shl_in _ _ | exact pm_cmp_in _ _ | exact pm_b8_in _ | (unfold pm_inI; split <;> omega)) (fun h => absurd h (show ¬ (¬ (0 : Int) = (0 : Int)) by omega)) (fun _ => ?_)
          refine g_goto (t := 205) lk_253_52 rfl ?_
          refine g_iinc (ls' := [(2, ((116 : Nat) : Int)), (0, (t : Int)), (0, (b : Int)), (0, ((i : Int) + 1)), (0, 0), v5, v6]) lk_253_205 rfl rfl rfl ?_
          refine g_goto (t := 27) lk_253_208 rfl ?_
          exact ih (i + 1) _ _ _ _ (by omega) lay mf (co_leaf hp h0 hc)
      obtain ⟨g1, g2, g3, g4, _, _⟩ := a4 h0
      obtain ⟨q, hq⟩ : ∃ q, q = (ndA L i).2.2.toNat := ⟨_, rfl⟩
      have y3N : pm_ct N 125 j = (q : Int) := by rw [mf.ct (by decide) (by decide), y3]; omega
      have y2N : pm_ct N 124 j = ((ndA L i).2.1 : Int) := by rw [mf.ct (by decide) (by decide)]; exact y2
      have q1 : i + 1 < q := by omega
      have q2 : q < l := by omega
      obtain ⟨b1, b2, _, _, _, _⟩ := CM_bd hT hD hp _ _ (Nat.lt_succ_self _) hk
      have r6 := lt_64_of hT.1.2 b1
      have c6 := lt_64_of hT.2.1.2 b2
      obtain ⟨w1, w2⟩ := hc i hk (by
        by_cases z : i = 0
        · exact Or.inl z
        · exact Or.inr (hp.2 i (by omega) hk).1)
      have st := fun N' a b' a' bb => co_stp (N := N') (a := a) (b := b') (a' := a') (b' := bb) hD hp hk h0 hq hc
      have fd := fun N' => ih (i + 1) (0, ((ndA L i).1 : Int)) (0, ((ndA L i).2.1 : Int)) (0, (q : Int)) N' (by omega)
      obtain ⟨e, he⟩ : ∃ e, e = CM T L p i := ⟨_, rfl⟩
      obtain ⟨s, hs⟩ : ∃ s, s = (ndA L i).2.1 := ⟨_, rfl⟩
      rw [← he] at w1 w2 r6 c6 st
      rw [← hs] at y2N a2 st fd
      clear ih
      have m1 : ∀ (x : Nat) (z1 z2 : Int), pm_ct N x i = z1 → pm_upd (pm_ct N x) (i + 1) z2 i = z1 := fun x z1 z2 h => by rw [pm_upd_ne (by omega)]; exact h
      have an : ∀ x : Nat, x < 64 → pm_and (x : Int) (s : Int) = ((x &&& s : Nat) : Int) := fun x hx => pm_and_n (by omega) (by omega)
      have nn : ∀ x : Nat, x < 64 → pm_and (x : Int) (pm_xor (s : Int) (-1)) = ((sDif x s : Nat) : Int) := fun x hx => pm_nand hx a2
      rcases (by omega : (ndA L i).1 = 1 ∨ (ndA L i).1 = 2) with ek | ek
      · rw [ek] at y1N st fd
        refine g_iload_n lk_253_27 rfl ?_
        refine g_aload_n lk_253_28 rfl ?_
        refine g_getfield lk_253_29 rfl (lay.on (by decide) rfl) (v := ((122 : Nat) : Int)) (lay.rf rfl) ?_
        refine g_iload_n lk_253_32 rfl ?_
        refine m_iaload (u := []) (M := N) lk_253_33 (lay.ay (by decide) rfl) (by omega) (j := t) (by omega) (v := (l : Int)) nN ?_
        refine g_icmp (t := 211) lk_253_34 rfl (by first | (unfold pm_inI; omega) | exact pm_and_in _ _ | exact pm_shr_in _ _ | exact pm_or_in _ _ | exact pm_xor_in _ _ | exact pm_shl_in _ _ | exact pm_cmp_in _ _ | exact pm_b8_in _ | (unfold pm_inI; split <;> omega)) (by first | (unfold pm_inI; omega) | exact pm_and_in _ _ | exact pm_shr_in _ _ | exact pm_or_in _ _ | exact pm_xor_in _ _ | exact pm_shl_in _ _ | exact pm_cmp_in _ _ | exact pm_b8_in _ | (unfold pm_inI; split <;> omega)) (fun h1 => ?_) (fun h1 => ?_)
        · replace h1 : (l : Int) ≤ (i : Int) := h1
          omega
        · replace h1 : ¬ ((l : Int) ≤ (i : Int)) := h1
          refine g_aload_n lk_253_37 rfl ?_
          refine g_getfield lk_253_38 rfl (lay.on (by decide) rfl) (v := ((123 : Nat) : Int)) (lay.rf rfl) ?_
          refine g_iload_n lk_253_41 rfl ?_
          refine g_iload_n lk_253_42 rfl ?_
          refine g_iadd lk_253_43 ?_
          refine g_top (z := ((b : Int) + (i : Int))) (z' := (j : Int)) (ej) ?_
          refine m_iaload (u := []) (M := N) lk_253_44 (lay.ay (by decide) rfl) (by omega) (j := j) (by omega) (v := 1) y1N ?_
          refine g_istore (ls' := [(2, ((116 : Nat) : Int)), (0, (t : Int)), (0, (b : Int)), (0, (i : Int)), (0, 1), v5, v6]) lk_253_45 rfl rfl ?_
          refine g_iload lk_253_47 rfl ?_
          refine g_if (t := 55) lk_253_49 rfl (by first | (unfold pm_inI; omega) | exact pm_and_in _ _ | exact pm_shr_in _ _ | exact pm_or_in _ _ | exact pm_xor_in _ _ | exact pm_shl_in _ _ | exact pm_cmp_in _ _ | exact pm_b8_in _ | (unfold pm_inI; split <;> omega)) (fun _ => ?_) (fun h => absurd (show ¬ (1 : Int) = (0 : Int) by omega) h)
          refine g_aload_n lk_253_55 rfl ?_
          refine g_getfield lk_253_56 rfl (lay.on (by decide) rfl) (v := ((124 : Nat) : Int)) (lay.rf rfl) ?_
          refine g_iload_n lk_253_59 rfl ?_
          refine g_iload_n lk_253_60 rfl ?_
          refine g_iadd lk_253_61 ?_
          refine g_top (z := ((b : Int) + (i : Int))) (z' := (j : Int)) (ej) ?_
          refine m_iaload (u := []) (M := N) lk_253_62 (lay.ay (by decide) rfl) (by omega) (j := j) (by omega) (v := (s : Int)) y2N ?_
          refine g_istore (ls' := [(2, ((116 : Nat) : Int)), (0, (t : Int)), (0, (b : Int)), (0, (i : Int)), (0, 1), (0, (s : Int)), v6]) lk_253_63 rfl rfl ?_
          refine g_aload_n lk_253_65 rfl ?_
          refine g_getfield lk_253_66 rfl (lay.on (by decide) rfl) (v := ((125 : Nat) : Int)) (lay.rf rfl) ?_
          refine g_iload_n lk_253_69 rfl ?_
          refine g_iload_n lk_253_70 rfl ?_
          refine g_iadd lk_253_71 ?_
          refine g_top (z := ((b : Int) + (i : Int))) (z' := (j : Int)) (ej) ?_
          refine m_iaload (u := []) (M := N) lk_253_72 (lay.ay (by decide) rfl) (by omega) (j := j) (by omega) (v := (q : Int)) y3N ?_
          refine g_istore (ls' := [(2, ((116 : Nat) : Int)), (0, (t : Int)), (0, (b : Int)), (0, (i : Int)), (0, 1), (0, (s : Int)), (0, (q : Int))]) lk_253_73 rfl rfl ?_
          refine g_aload_n lk_253_75 rfl ?_
          refine g_getfield lk_253_76 rfl (lay.on (by decide) rfl) (v := ((153 : Nat) : Int)) (lay.rf rfl) ?_
          refine g_iload_n lk_253_79 rfl ?_
          refine g_iconst lk_253_80 ?_
          refine g_iadd lk_253_81 ?_
          refine g_iload lk_253_82 rfl ?_
          refine g_iconst lk_253_84 ?_
          refine g_icmp (t := 100) lk_253_85 rfl (by first | (unfold pm_inI; omega) | exact pm_and_in _ _ | exact pm_shr_in _ _ | exact pm_or_in _ _ | exact pm_xor_in _ _ | exact pm_shl_in _ _ | exact pm_cmp_in _ _ | exact pm_b8_in _ | (unfold pm_inI; split <;> omega)) (by first | (unfold pm_inI; omega) | exact pm_and_in _ _ | exact pm_shr_in _ _ | exact pm_or_in _ _ | exact pm_xor_in _ _ | exact pm_shl_in _ _ | exact pm_cmp_in _ _ | exact pm_b8_in _ | (unfold pm_inI; split <;> omega)) (fun h => absurd h (show ¬ (¬ (1 : Int) = (1 : Int)) by omega)) (fun _ => ?_)
          refine g_aload_n lk_253_88 rfl ?_
          refine g_getfield lk_253_89 rfl (lay.on (by decide) rfl) (v := ((153 : Nat) : Int)) (lay.rf rfl) ?_
          refine g_iload_n lk_253_92 rfl ?_
          refine m_iaload (u := []) (M := N) lk_253_93 (lay.ay (by decide) rfl) (by omega) (j := i) (by omega) (v := (e.1 : Int)) w1 ?_
          refine g_iload lk_253_94 rfl ?_
          refine g_iand lk_253_96 ?_
          refine g_top (z := (pm_and (e.1 : Int) (s : Int))) (z' := ((e.1 &&& s : Nat) : Int)) (an _ r6) ?_
          refine g_goto (t := 106) lk_253_97 rfl ?_
          have lay2 : Lay (Mu [(153, pm_upd (pm_ct N 153) (i + 1) ((e.1 &&& s : Nat) : Int))] N) := lay.muA (l := []) (a := 153) (f := pm_upd (pm_ct N 153) (i + 1) ((e.1 &&& s : Nat) : Int)) rfl rfl
          refine m_iastore (u := []) (u' := [(153, pm_upd (pm_ct N 153) (i + 1) ((e.1 &&& s : Nat) : Int))]) (M := N) lk_253_106 (lay.ay (by decide) rfl) (by omega) (j := (i + 1)) (by omega) rfl ?_
          refine g_aload_n lk_253_107 rfl ?_
          refine g_getfield lk_253_108 rfl (lay2.on (by decide) rfl) (v := ((154 : Nat) : Int)) (lay2.rf rfl) ?_
          refine g_iload_n lk_253_111 rfl ?_
          refine g_iconst lk_253_112 ?_
          refine g_iadd lk_253_113 ?_
          refine g_iload lk_253_114 rfl ?_
          refine g_iconst lk_253_116 ?_
          refine g_icmp (t := 132) lk_253_117 rfl (by first | (unfold pm_inI; omega) | exact pm_and_in _ _ | exact pm_shr_in _ _ | exact pm_or_in _ _ | exact pm_xor_in _ _ | exact pm_shl_in _ _ | exact pm_cmp_in _ _ | exact pm_b8_in _ | (unfold pm_inI; split <;> omega)) (by first | (unfold pm_inI; omega) | exact pm_and_in _ _ | exact pm_shr_in _ _ | exact pm_or_in _ _ | exact pm_xor_in _ _ | exact pm_shl_in _ _ | exact pm_cmp_in _ _ | exact pm_b8_in _ | (unfold pm_inI; split <;> omega)) (fun _ => ?_) (fun h => absurd (show ¬ (1 : Int) = (2 : Int) by omega) h)
          refine g_aload_n lk_253_132 rfl ?_
          refine g_getfield lk_253_133 rfl (lay2.on (by decide) rfl) (v := ((154 : Nat) : Int)) (lay2.rf rfl) ?_
          refine g_iload_n lk_253_136 rfl ?_
          refine m_iaload (u := [(153, pm_upd (pm_ct N 153) (i + 1) ((e.1 &&& s : Nat) : Int))]) (M := N) lk_253_137 (lay2.ay (by decide) rfl) (by omega) (j := i) (by omega) (v := (e.2.1 : Int)) w2 ?_
          have lay3 : Lay (Mu [(153, pm_upd (pm_ct N 153) (i + 1) ((e.1 &&& s : Nat) : Int)), (154, pm_upd (pm_ct N 154) (i + 1) (e.2.1 : Int))] N) := lay2.muA (l := [(153, pm_upd (pm_ct N 153) (i + 1) ((e.1 &&& s : Nat) : Int))]) (a := 154) (f := pm_upd (pm_ct N 154) (i + 1) (e.2.1 : Int)) rfl rfl
          refine m_iastore (u := [(153, pm_upd (pm_ct N 153) (i + 1) ((e.1 &&& s : Nat) : Int))]) (u' := [(153, pm_upd (pm_ct N 153) (i + 1) ((e.1 &&& s : Nat) : Int)), (154, pm_upd (pm_ct N 154) (i + 1) (e.2.1 : Int))]) (M := N) lk_253_138 (lay2.ay (by decide) rfl) (by omega) (j := (i + 1)) (by omega) rfl ?_
          refine g_aload_n lk_253_139 rfl ?_
          refine g_getfield lk_253_140 rfl (lay3.on (by decide) rfl) (v := ((153 : Nat) : Int)) (lay3.rf rfl) ?_
          refine g_iload lk_253_143 rfl ?_
          refine g_iload lk_253_145 rfl ?_
          refine g_iconst lk_253_147 ?_
          refine g_icmp (t := 165) lk_253_148 rfl (by first | (unfold pm_inI; omega) | exact pm_and_in _ _ | exact pm_shr_in _ _ | exact pm_or_in _ _ | exact pm_xor_in _ _ | exact pm_shl_in _ _ | exact pm_cmp_in _ _ | exact pm_b8_in _ | (unfold pm_inI; split <;> omega)) (by first | (unfold pm_inI; omega) | exact pm_and_in _ _ | exact pm_shr_in _ _ | exact pm_or_in _ _ | exact pm_xor_in _ _ | exact pm_shl_in _ _ | exact pm_cmp_in _ _ | exact pm_b8_in _ | (unfold pm_inI; split <;> omega)) (fun h => absurd h (show ¬ (¬ (1 : Int) = (1 : Int)) by omega)) (fun _ => ?_)
          refine g_aload_n lk_253_151 rfl ?_
          refine g_getfield lk_253_152 rfl (lay3.on (by decide) rfl) (v := ((153 : Nat) : Int)) (lay3.rf rfl) ?_
          refine g_iload_n lk_253_155 rfl ?_
          refine m_iaload (u := [(153, pm_upd (pm_ct N 153) (i + 1) ((e.1 &&& s : Nat) : Int)), (154, pm_upd (pm_ct N 154) (i + 1) (e.2.1 : Int))]) (M := N) lk_253_156 (lay3.ay (by decide) rfl) (by omega) (j := i) (by omega) (v := pm_upd (pm_ct N 153) (i + 1) ((e.1 &&& s : Nat) : Int) i) rfl ?_
          refine g_top (z := (pm_upd (pm_ct N 153) (i + 1) ((e.1 &&& s : Nat) : Int) i)) (z' := (e.1 : Int)) (m1 _ _ _ w1) ?_
          refine g_iload lk_253_157 rfl ?_
          refine g_iconst lk_253_159 ?_
          refine g_ixor lk_253_160 ?_
          refine g_iand lk_253_161 ?_
          refine g_top (z := (pm_and (e.1 : Int) (pm_xor (s : Int) (-1)))) (z' := ((sDif e.1 s : Nat) : Int)) (nn _ r6) ?_
          refine g_goto (t := 171) lk_253_162 rfl ?_
          have lay4 : Lay (Mu [(153, pm_upd (pm_upd (pm_ct N 153) (i + 1) ((e.1 &&& s : Nat) : Int)) q ((sDif e.1 s : Nat) : Int)), (154, pm_upd (pm_ct N 154) (i + 1) (e.2.1 : Int))] N) := lay3.muA (l := [(153, pm_upd (pm_ct N 153) (i + 1) ((e.1 &&& s : Nat) : Int)), (154, pm_upd (pm_ct N 154) (i + 1) (e.2.1 : Int))]) (a := 153) (f := pm_upd (pm_upd (pm_ct N 153) (i + 1) ((e.1 &&& s : Nat) : Int)) q ((sDif e.1 s : Nat) : Int)) rfl rfl
          refine m_iastore (u := [(153, pm_upd (pm_ct N 153) (i + 1) ((e.1 &&& s : Nat) : Int)), (154, pm_upd (pm_ct N 154) (i + 1) (e.2.1 : Int))]) (u' := [(153, pm_upd (pm_upd (pm_ct N 153) (i + 1) ((e.1 &&& s : Nat) : Int)) q ((sDif e.1 s : Nat) : Int)), (154, pm_upd (pm_ct N 154) (i + 1) (e.2.1 : Int))]) (M := N) lk_253_171 (lay3.ay (by decide) rfl) (by omega) (j := q) (by omega) rfl ?_
          refine g_aload_n lk_253_172 rfl ?_
          refine g_getfield lk_253_173 rfl (lay4.on (by decide) rfl) (v := ((154 : Nat) : Int)) (lay4.rf rfl) ?_
          refine g_iload lk_253_176 rfl ?_
          refine g_iload lk_253_178 rfl ?_
          refine g_iconst lk_253_180 ?_
          refine g_icmp (t := 198) lk_253_181 rfl (by first | (unfold pm_inI; omega) | exact pm_and_in _ _ | exact pm_shr_in _ _ | exact pm_or_in _ _ | exact pm_xor_in _ _ | exact pm_shl_in _ _ | exact pm_cmp_in _ _ | exact pm_b8_in _ | (unfold pm_inI; split <;> omega)) (by first | (unfold pm_inI; omega) | exact pm_and_in _ _ | exact pm_shr_in _ _ | exact pm_or_in _ _ | exact pm_xor_in _ _ | exact pm_shl_in _ _ | exact pm_cmp_in _ _ | exact pm_b8_in _ | (unfold pm_inI; split <;> omega)) (fun _ => ?_) (fun h => absurd (show ¬ (1 : Int) = (2 : Int) by omega) h)
          refine g_aload_n lk_253_198 rfl ?_
          refine g_getfield lk_253_199 rfl (lay4.on (by decide) rfl) (v := ((154 : Nat) : Int)) (lay4.rf rfl) ?_
          refine g_iload_n lk_253_202 rfl ?_
          refine m_iaload (u := [(153, pm_upd (pm_upd (pm_ct N 153) (i + 1) ((e.1 &&& s : Nat) : Int)) q ((sDif e.1 s : Nat) : Int)), (154, pm_upd (pm_ct N 154) (i + 1) (e.2.1 : Int))]) (M := N) lk_253_203 (lay4.ay (by decide) rfl) (by omega) (j := i) (by omega) (v := pm_upd (pm_ct N 154) (i + 1) (e.2.1 : Int) i) rfl ?_
          refine g_top (z := (pm_upd (pm_ct N 154) (i + 1) (e.2.1 : Int) i)) (z' := (e.2.1 : Int)) (m1 _ _ _ w2) ?_
          have lay5 : Lay (Mu [(153, pm_upd (pm_upd (pm_ct N 153) (i + 1) ((e.1 &&& s : Nat) : Int)) q ((sDif e.1 s : Nat) : Int)), (154, pm_upd (pm_upd (pm_ct N 154) (i + 1) (e.2.1 : Int)) q (e.2.1 : Int))] N) := lay4.muA (l := [(153, pm_upd (pm_upd (pm_ct N 153) (i + 1) ((e.1 &&& s : Nat) : Int)) q ((sDif e.1 s : Nat) : Int)), (154, pm_upd (pm_ct N 154) (i + 1) (e.2.1 : Int))]) (a := 154) (f := pm_upd (pm_upd (pm_ct N 154) (i + 1) (e.2.1 : Int)) q (e.2.1 : Int)) rfl rfl
          refine m_iastore (u := [(153, pm_upd (pm_upd (pm_ct N 153) (i + 1) ((e.1 &&& s : Nat) : Int)) q ((sDif e.1 s : Nat) : Int)), (154, pm_upd (pm_ct N 154) (i + 1) (e.2.1 : Int))]) (u' := [(153, pm_upd (pm_upd (pm_ct N 153) (i + 1) ((e.1 &&& s : Nat) : Int)) q ((sDif e.1 s : Nat) : Int)), (154, pm_upd (pm_upd (pm_ct N 154) (i + 1) (e.2.1 : Int)) q (e.2.1 : Int))]) (M := N) lk_253_204 (lay4.ay (by decide) rfl) (by omega) (j := q) (by omega) rfl ?_
          refine g_iinc (ls' := [(2, ((116 : Nat) : Int)), (0, (t : Int)), (0, (b : Int)), (0, ((i : Int) + 1)), (0, 1), (0, (s : Int)), (0, (q : Int))]) lk_253_205 rfl rfl rfl ?_
          refine g_goto (t := 27) lk_253_208 rfl ?_
          refine fd _ lay5 (mf.trans (MF.mu _ _ rfl (fun _ _ => rfl))) (st _ _ _ _ _ (by rw [Mu_ct]; rfl) (by rw [Mu_ct]; rfl) rfl rfl rfl rfl)
      · rw [ek] at y1N st fd
        refine g_iload_n lk_253_27 rfl ?_
        refine g_aload_n lk_253_28 rfl ?_
        refine g_getfield lk_253_29 rfl (lay.on (by decide) rfl) (v := ((122 : Nat) : Int)) (lay.rf rfl) ?_
        refine g_iload_n lk_253_32 rfl ?_
        refine m_iaload (u := []) (M := N) lk_253_33 (lay.ay (by decide) rfl) (by omega) (j := t) (by omega) (v := (l : Int)) nN ?_
        refine g_icmp (t := 211) lk_253_34 rfl (by first | (unfold pm_inI; omega) | exact pm_and_in _ _ | exact pm_shr_in _ _ | exact pm_or_in _ _ | exact pm_xor_in _ _ | exact pm_shl_in _ _ | exact pm_cmp_in _ _ | exact pm_b8_in _ | (unfold pm_inI; split <;> omega)) (by first | (unfold pm_inI; omega) | exact pm_and_in _ _ | exact pm_shr_in _ _ | exact pm_or_in _ _ | exact pm_xor_in _ _ | exact pm_shl_in _ _ | exact pm_cmp_in _ _ | exact pm_b8_in _ | (unfold pm_inI; split <;> omega)) (fun h1 => ?_) (fun h1 => ?_)
        · replace h1 : (l : Int) ≤ (i : Int) := h1
          omega
        · replace h1 : ¬ ((l : Int) ≤ (i : Int)) := h1
          refine g_aload_n lk_253_37 rfl ?_
          refine g_getfield lk_253_38 rfl (lay.on (by decide) rfl) (v := ((123 : Nat) : Int)) (lay.rf rfl) ?_
          refine g_iload_n lk_253_41 rfl ?_
          refine g_iload_n lk_253_42 rfl ?_
          refine g_iadd lk_253_43 ?_
          refine g_top (z := ((b : Int) + (i : Int))) (z' := (j : Int)) (ej) ?_
          refine m_iaload (u := []) (M := N) lk_253_44 (lay.ay (by decide) rfl) (by omega) (j := j) (by omega) (v := 2) y1N ?_
          refine g_istore (ls' := [(2, ((116 : Nat) : Int)), (0, (t : Int)), (0, (b : Int)), (0, (i : Int)), (0, 2), v5, v6]) lk_253_45 rfl rfl ?_
          refine g_iload lk_253_47 rfl ?_
          refine g_if (t := 55) lk_253_49 rfl (by first | (unfold pm_inI; omega) | exact pm_and_in _ _ | exact pm_shr_in _ _ | exact pm_or_in _ _ | exact pm_xor_in _ _ | exact pm_shl_in _ _ | exact pm_cmp_in _ _ | exact pm_b8_in _ | (unfold pm_inI; split <;> omega)) (fun _ => ?_) (fun h => absurd (show ¬ (2 : Int) = (0 : Int) by omega) h)
          refine g_aload_n lk_253_55 rfl ?_
          refine g_getfield lk_253_56 rfl (lay.on (by decide) rfl) (v := ((124 : Nat) : Int)) (lay.rf rfl) ?_
          refine g_iload_n lk_253_59 rfl ?_
          refine g_iload_n lk_253_60 rfl ?_
          refine g_iadd lk_253_61 ?_
          refine g_top (z := ((b : Int) + (i : Int))) (z' := (j : Int)) (ej) ?_
          refine m_iaload (u := []) (M := N) lk_253_62 (lay.ay (by decide) rfl) (by omega) (j := j) (by omega) (v := (s : Int)) y2N ?_
          refine g_istore (ls' := [(2, ((116 : Nat) : Int)), (0, (t : Int)), (0, (b : Int)), (0, (i : Int)), (0, 2), (0, (s : Int)), v6]) lk_253_63 rfl rfl ?_
          refine g_aload_n lk_253_65 rfl ?_
          refine g_getfield lk_253_66 rfl (lay.on (by decide) rfl) (v := ((125 : Nat) : Int)) (lay.rf rfl) ?_
          refine g_iload_n lk_253_69 rfl ?_
          refine g_iload_n lk_253_70 rfl ?_
          refine g_iadd lk_253_71 ?_
          refine g_top (z := ((b : Int) + (i : Int))) (z' := (j : Int)) (ej) ?_
          refine m_iaload (u := []) (M := N) lk_253_72 (lay.ay (by decide) rfl) (by omega) (j := j) (by omega) (v := (q : Int)) y3N ?_
          refine g_istore (ls' := [(2, ((116 : Nat) : Int)), (0, (t : Int)), (0, (b : Int)), (0, (i : Int)), (0, 2), (0, (s : Int)), (0, (q : Int))]) lk_253_73 rfl rfl ?_
          refine g_aload_n lk_253_75 rfl ?_
          refine g_getfield lk_253_76 rfl (lay.on (by decide) rfl) (v := ((153 : Nat) : Int)) (lay.rf rfl) ?_
          refine g_iload_n lk_253_79 rfl ?_
          refine g_iconst lk_253_80 ?_
          refine g_iadd lk_253_81 ?_
          refine g_iload lk_253_82 rfl ?_
          refine g_iconst lk_253_84 ?_
          refine g_icmp (t := 100) lk_253_85 rfl (by first | (unfold pm_inI; omega) | exact pm_and_in _ _ | exact pm_shr_in _ _ | exact pm_or_in _ _ | exact pm_xor_in _ _ | exact pm_shl_in _ _ | exact pm_cmp_in _ _ | exact pm_b8_in _ | (unfold pm_inI; split <;> omega)) (by first | (unfold pm_inI; omega) | exact pm_and_in _ _ | exact pm_shr_in _ _ | exact pm_or_in _ _ | exact pm_xor_in _ _ | exact pm_shl_in _ _ | exact pm_cmp_in _ _ | exact pm_b8_in _ | (unfold pm_inI; split <;> omega)) (fun _ => ?_) (fun h => absurd (show ¬ (2 : Int) = (1 : Int) by omega) h)
          refine g_aload_n lk_253_100 rfl ?_
          refine g_getfield lk_253_101 rfl (lay.on (by decide) rfl) (v := ((153 : Nat) : Int)) (lay.rf rfl) ?_
          refine g_iload_n lk_253_104 rfl ?_
          refine m_iaload (u := []) (M := N) lk_253_105 (lay.ay (by decide) rfl) (by omega) (j := i) (by omega) (v := (e.1 : Int)) w1 ?_
          have lay2 : Lay (Mu [(153, pm_upd (pm_ct N 153) (i + 1) (e.1 : Int))] N) := lay.muA (l := []) (a := 153) (f := pm_upd (pm_ct N 153) (i + 1) (e.1 : Int)) rfl rfl
          refine m_iastore (u := []) (u' := [(153, pm_upd (pm_ct N 153) (i + 1) (e.1 : Int))]) (M := N) lk_253_106 (lay.ay (by decide) rfl) (by omega) (j := (i + 1)) (by omega) rfl ?_
          refine g_aload_n lk_253_107 rfl ?_
          refine g_getfield lk_253_108 rfl (lay2.on (by decide) rfl) (v := ((154 : Nat) : Int)) (lay2.rf rfl) ?_
          refine g_iload_n lk_253_111 rfl ?_
          refine g_iconst lk_253_112 ?_
          refine g_iadd lk_253_113 ?_
          refine g_iload lk_253_114 rfl ?_
          refine g_iconst lk_253_116 ?_
          refine g_icmp (t := 132) lk_253_117 rfl (by first | (unfold pm_inI; omega) | exact pm_and_in _ _ | exact pm_shr_in _ _ | exact pm_or_in _ _ | exact pm_xor_in _ _ | exact pm_shl_in _ _ | exact pm_cmp_in _ _ | exact pm_b8_in _ | (unfold pm_inI; split <;> omega)) (by first | (unfold pm_inI; omega) | exact pm_and_in _ _ | exact pm_shr_in _ _ | exact pm_or_in _ _ | exact pm_xor_in _ _ | exact pm_shl_in _ _ | exact pm_cmp_in _ _ | exact pm_b8_in _ | (unfold pm_inI; split <;> omega)) (fun h => absurd h (show ¬ (¬ (2 : Int) = (2 : Int)) by omega)) (fun _ => ?_)
          refine g_aload_n lk_253_120 rfl ?_
          refine g_getfield lk_253_121 rfl (lay2.on (by decide) rfl) (v := ((154 : Nat) : Int)) (lay2.rf rfl) ?_
          refine g_iload_n lk_253_124 rfl ?_
          refine m_iaload (u := [(153, pm_upd (pm_ct N 153) (i + 1) (e.1 : Int))]) (M := N) lk_253_125 (lay2.ay (by decide) rfl) (by omega) (j := i) (by omega) (v := (e.2.1 : Int)) w2 ?_
          refine g_iload lk_253_126 rfl ?_
          refine g_iand lk_253_128 ?_
          refine g_top (z := (pm_and (e.2.1 : Int) (s : Int))) (z' := ((e.2.1 &&& s : Nat) : Int)) (an _ c6) ?_
          refine g_goto (t := 138) lk_253_129 rfl ?_
          have lay3 : Lay (Mu [(153, pm_upd (pm_ct N 153) (i + 1) (e.1 : Int)), (154, pm_upd (pm_ct N 154) (i + 1) ((e.2.1 &&& s : Nat) : Int))] N) := lay2.muA (l := [(153, pm_upd (pm_ct N 153) (i + 1) (e.1 : Int))]) (a := 154) (f := pm_upd (pm_ct N 154) (i + 1) ((e.2.1 &&& s : Nat) : Int)) rfl rfl
          refine m_iastore (u := [(153, pm_upd (pm_ct N 153) (i + 1) (e.1 : Int))]) (u' := [(153, pm_upd (pm_ct N 153) (i + 1) (e.1 : Int)), (154, pm_upd (pm_ct N 154) (i + 1) ((e.2.1 &&& s : Nat) : Int))]) (M := N) lk_253_138 (lay2.ay (by decide) rfl) (by omega) (j := (i + 1)) (by omega) rfl ?_
          refine g_aload_n lk_253_139 rfl ?_
          refine g_getfield lk_253_140 rfl (lay3.on (by decide) rfl) (v := ((153 : Nat) : Int)) (lay3.rf rfl) ?_
          refine g_iload lk_253_143 rfl ?_
          refine g_iload lk_253_145 rfl ?_
          refine g_iconst lk_253_147 ?_
          refine g_icmp (t := 165) lk_253_148 rfl (by first | (unfold pm_inI; omega) | exact pm_and_in _ _ | exact pm_shr_in _ _ | exact pm_or_in _ _ | exact pm_xor_in _ _ | exact pm_shl_in _ _ | exact pm_cmp_in _ _ | exact pm_b8_in _ | (unfold pm_inI; split <;> omega)) (by first | (unfold pm_inI; omega) | exact pm_and_in _ _ | exact pm_shr_in _ _ | exact pm_or_in _ _ | exact pm_xor_in _ _ | exact pm_shl_in _ _ | exact pm_cmp_in _ _ | exact pm_b8_in _ | (unfold pm_inI; split <;> omega)) (fun _ => ?_) (fun h => absurd (show ¬ (2 : Int) = (1 : Int) by omega) h)
          refine g_aload_n lk_253_165 rfl ?_
          refine g_getfield lk_253_166 rfl (lay3.on (by decide) rfl) (v := ((153 : Nat) : Int)) (lay3.rf rfl) ?_
          refine g_iload_n lk_253_169 rfl ?_
          refine m_iaload (u := [(153, pm_upd (pm_ct N 153) (i + 1) (e.1 : Int)), (154, pm_upd (pm_ct N 154) (i + 1) ((e.2.1 &&& s : Nat) : Int))]) (M := N) lk_253_170 (lay3.ay (by decide) rfl) (by omega) (j := i) (by omega) (v := pm_upd (pm_ct N 153) (i + 1) (e.1 : Int) i) rfl ?_
          refine g_top (z := (pm_upd (pm_ct N 153) (i + 1) (e.1 : Int) i)) (z' := (e.1 : Int)) (m1 _ _ _ w1) ?_
          have lay4 : Lay (Mu [(153, pm_upd (pm_upd (pm_ct N 153) (i + 1) (e.1 : Int)) q (e.1 : Int)), (154, pm_upd (pm_ct N 154) (i + 1) ((e.2.1 &&& s : Nat) : Int))] N) := lay3.muA (l := [(153, pm_upd (pm_ct N 153) (i + 1) (e.1 : Int)), (154, pm_upd (pm_ct N 154) (i + 1) ((e.2.1 &&& s : Nat) : Int))]) (a := 153) (f := pm_upd (pm_upd (pm_ct N 153) (i + 1) (e.1 : Int)) q (e.1 : Int)) rfl rfl
          refine m_iastore (u := [(153, pm_upd (pm_ct N 153) (i + 1) (e.1 : Int)), (154, pm_upd (pm_ct N 154) (i + 1) ((e.2.1 &&& s : Nat) : Int))]) (u' := [(153, pm_upd (pm_upd (pm_ct N 153) (i + 1) (e.1 : Int)) q (e.1 : Int)), (154, pm_upd (pm_ct N 154) (i + 1) ((e.2.1 &&& s : Nat) : Int))]) (M := N) lk_253_171 (lay3.ay (by decide) rfl) (by omega) (j := q) (by omega) rfl ?_
          refine g_aload_n lk_253_172 rfl ?_
          refine g_getfield lk_253_173 rfl (lay4.on (by decide) rfl) (v := ((154 : Nat) : Int)) (lay4.rf rfl) ?_
          refine g_iload lk_253_176 rfl ?_
          refine g_iload lk_253_178 rfl ?_
          refine g_iconst lk_253_180 ?_
          refine g_icmp (t := 198) lk_253_181 rfl (by first | (unfold pm_inI; omega) | exact pm_and_in _ _ | exact pm_shr_in _ _ | exact pm_or_in _ _ | exact pm_xor_in _ _ | exact pm_shl_in _ _ | exact pm_cmp_in _ _ | exact pm_b8_in _ | (unfold pm_inI; split <;> omega)) (by first | (unfold pm_inI; omega) | exact pm_and_in _ _ | exact pm_shr_in _ _ | exact pm_or_in _ _ | exact pm_xor_in _ _ | exact pm_shl_in _ _ | exact pm_cmp_in _ _ | exact pm_b8_in _ | (unfold pm_inI; split <;> omega)) (fun h => absurd h (show ¬ (¬ (2 : Int) = (2 : Int)) by omega)) (fun _ => ?_)
          refine g_aload_n lk_253_184 rfl ?_
          refine g_getfield lk_253_185 rfl (lay4.on (by decide) rfl) (v := ((154 : Nat) : Int)) (lay4.rf rfl) ?_
          refine g_iload_n lk_253_188 rfl ?_
          refine m_iaload (u := [(153, pm_upd (pm_upd (pm_ct N 153) (i + 1) (e.1 : Int)) q (e.1 : Int)), (154, pm_upd (pm_ct N 154) (i + 1) ((e.2.1 &&& s : Nat) : Int))]) (M := N) lk_253_189 (lay4.ay (by decide) rfl) (by omega) (j := i) (by omega) (v := pm_upd (pm_ct N 154) (i + 1) ((e.2.1 &&& s : Nat) : Int) i) rfl ?_
          refine g_top (z := (pm_upd (pm_ct N 154) (i + 1) ((e.2.1 &&& s : Nat) : Int) i)) (z' := (e.2.1 : Int)) (m1 _ _ _ w2) ?_
          refine g_iload lk_253_190 rfl ?_
          refine g_iconst lk_253_192 ?_
          refine g_ixor lk_253_193 ?_
          refine g_iand lk_253_194 ?_
          refine g_top (z := (pm_and (e.2.1 : Int) (pm_xor (s : Int) (-1)))) (z' := ((sDif e.2.1 s : Nat) : Int)) (nn _ c6) ?_
          refine g_goto (t := 204) lk_253_195 rfl ?_
          have lay5 : Lay (Mu [(153, pm_upd (pm_upd (pm_ct N 153) (i + 1) (e.1 : Int)) q (e.1 : Int)), (154, pm_upd (pm_upd (pm_ct N 154) (i + 1) ((e.2.1 &&& s : Nat) : Int)) q ((sDif e.2.1 s : Nat) : Int))] N) := lay4.muA (l := [(153, pm_upd (pm_upd (pm_ct N 153) (i + 1) (e.1 : Int)) q (e.1 : Int)), (154, pm_upd (pm_ct N 154) (i + 1) ((e.2.1 &&& s : Nat) : Int))]) (a := 154) (f := pm_upd (pm_upd (pm_ct N 154) (i + 1) ((e.2.1 &&& s : Nat) : Int)) q ((sDif e.2.1 s : Nat) : Int)) rfl rfl
          refine m_iastore (u := [(153, pm_upd (pm_upd (pm_ct N 153) (i + 1) (e.1 : Int)) q (e.1 : Int)), (154, pm_upd (pm_ct N 154) (i + 1) ((e.2.1 &&& s : Nat) : Int))]) (u' := [(153, pm_upd (pm_upd (pm_ct N 153) (i + 1) (e.1 : Int)) q (e.1 : Int)), (154, pm_upd (pm_upd (pm_ct N 154) (i + 1) ((e.2.1 &&& s : Nat) : Int)) q ((sDif e.2.1 s : Nat) : Int))]) (M := N) lk_253_204 (lay4.ay (by decide) rfl) (by omega) (j := q) (by omega) rfl ?_
          refine g_iinc (ls' := [(2, ((116 : Nat) : Int)), (0, (t : Int)), (0, (b : Int)), (0, ((i : Int) + 1)), (0, 2), (0, (s : Int)), (0, (q : Int))]) lk_253_205 rfl rfl rfl ?_
          refine g_goto (t := 27) lk_253_208 rfl ?_
          refine fd _ lay5 (mf.trans (MF.mu _ _ rfl (fun _ _ => rfl))) (st _ _ _ _ _ (by rw [Mu_ct]; rfl) (by rw [Mu_ct]; rfl) rfl rfl rfl rfl)
  show Wp (d + 1) 253 0 [(2, ((116 : Nat) : Int)), (0, (t : Int)), (9, 0), (9, 0), (9, 0), (9, 0), (9, 0)] [] M mc ms Q
  have eb : (31 : Int) * (t : Int) = (b : Int) := by omega
  have ar := c_Mo_allRows (d := d) (mc := 0) (ms := 0) lay0 hT hM0
  refine g_bipush lk_253_0 ?_
  refine g_iload_n lk_253_2 rfl ?_
  refine g_imul lk_253_3 ?_
  refine g_top (z := (31 * (t : Int))) (z' := (b : Int)) (eb) ?_
  refine g_istore_n (ls' := [(2, ((116 : Nat) : Int)), (0, (t : Int)), (0, (b : Int)), (9, 0), (9, 0), (9, 0), (9, 0)]) lk_253_4 rfl rfl ?_
  refine g_aload_n lk_253_5 rfl ?_
  refine g_getfield lk_253_6 rfl (lay0.on (by decide) rfl) (v := ((153 : Nat) : Int)) (lay0.rf rfl) ?_
  refine g_iconst lk_253_9 ?_
  refine g_aload_n lk_253_10 rfl ?_
  refine g_virtual (p := 116) (Qc := _) lk_253_11 rfl (Nat.le_of_ble_eq_true rfl) rfl rfl (lay0.on (by decide) rfl) (Nat.le_of_ble_eq_true rfl) (Nat.le_of_ble_eq_true rfl) (Nat.zero_le _) (Nat.zero_le _) (ar) ?_
  rintro _ N1 ⟨rfl, hN1⟩
  rw [hN1]
  show Wp _ 253 14 [(2, ((116 : Nat) : Int)), (0, (t : Int)), (0, (b : Int)), (9, 0), (9, 0), (9, 0), (9, 0)] [(0, ((2 ^ tR T - 1 : Nat) : Int)), (0, 0), (2, ((153 : Nat) : Int))] M _ _ _
  have lay2 : Lay (Mu [(153, pm_upd (pm_ct M 153) 0 ((2 ^ tR T - 1 : Nat) : Int))] M) := lay0.muA (l := []) (a := 153) (f := pm_upd (pm_ct M 153) 0 ((2 ^ tR T - 1 : Nat) : Int)) rfl rfl
  refine m_iastore (u := []) (u' := [(153, pm_upd (pm_ct M 153) 0 ((2 ^ tR T - 1 : Nat) : Int))]) (M := M) lk_253_14 (lay0.ay (by decide) rfl) (by omega) (j := 0) (by omega) rfl ?_
  refine g_aload_n lk_253_15 rfl ?_
  refine g_getfield lk_253_16 rfl (lay2.on (by decide) rfl) (v := ((154 : Nat) : Int)) (lay2.rf rfl) ?_
  refine g_iconst lk_253_19 ?_
  refine g_aload_n lk_253_20 rfl ?_
  refine g_virtual (p := 116) (Qc := _) lk_253_21 rfl (Nat.le_of_ble_eq_true rfl) rfl rfl (lay2.on (by decide) rfl) (Nat.le_of_ble_eq_true rfl) (Nat.le_of_ble_eq_true rfl) (Nat.zero_le _) (Nat.zero_le _) (c_Mo_allColumns lay2 hT (hM0.mf (MF.mu (S := [153, 154]) (K := []) _ _ rfl (fun _ _ => rfl)) (by decide) (by decide) (by decide) (by decide))) ?_
  rintro _ N3 ⟨rfl, hN3⟩
  rw [hN3]
  show Wp _ 253 24 [(2, ((116 : Nat) : Int)), (0, (t : Int)), (0, (b : Int)), (9, 0), (9, 0), (9, 0), (9, 0)] [(0, ((2 ^ tC T - 1 : Nat) : Int)), (0, 0), (2, ((154 : Nat) : Int))] (Mu [(153, pm_upd (pm_ct M 153) 0 ((2 ^ tR T - 1 : Nat) : Int))] M) _ _ _
  have lay4 : Lay (Mu [(153, pm_upd (pm_ct M 153) 0 ((2 ^ tR T - 1 : Nat) : Int)), (154, pm_upd (pm_ct M 154) 0 ((2 ^ tC T - 1 : Nat) : Int))] M) := lay2.muA (l := [(153, pm_upd (pm_ct M 153) 0 ((2 ^ tR T - 1 : Nat) : Int))]) (a := 154) (f := pm_upd (pm_ct M 154) 0 ((2 ^ tC T - 1 : Nat) : Int)) rfl rfl
  refine m_iastore (u := [(153, pm_upd (pm_ct M 153) 0 ((2 ^ tR T - 1 : Nat) : Int))]) (u' := [(153, pm_upd (pm_ct M 153) 0 ((2 ^ tR T - 1 : Nat) : Int)), (154, pm_upd (pm_ct M 154) 0 ((2 ^ tC T - 1 : Nat) : Int))]) (M := M) lk_253_24 (lay2.ay (by decide) rfl) (by omega) (j := 0) (by omega) rfl ?_
  refine g_iconst lk_253_25 ?_
  refine g_istore_n (ls' := [(2, ((116 : Nat) : Int)), (0, (t : Int)), (0, (b : Int)), (0, 0), (9, 0), (9, 0), (9, 0)]) lk_253_26 rfl rfl ?_
  refine loop l 0 _ _ _ _ (by omega) lay4 (MF.mu _ _ rfl (fun _ _ => rfl)) (fun k hk ho => ?_)
  have k0 : k = 0 := by omega
  rw [k0]
  exact ⟨by rw [Mu_ct]; rfl, by rw [Mu_ct]; rfl⟩
theorem c_Mo_isIdle {d mc ms : Nat} {M : pm_M} (lay : Lay M) {T : Tab} (hT : TabOK T) {L : List Nd} {p dp : Nat → Nat} (hD : TrD L dp) (hp : PaOK L p) (hC : CoAt M T L p L.length) {k : Nat} (hk : k < L.length) :
    pm_E d 254 [(2, ((116 : Nat) : Int)), (0, (k : Int))] M mc ms (fun ρ M' => ρ = some (0, if idl (CM T L p k) then 1 else 0) ∧ M' = M) := by
  obtain ⟨b1, b2, _, _, _, _⟩ := CM_bd hT hD hp _ _ (Nat.lt_succ_self _) hk
  have r6 := lt_64_of hT.1.2 b1
  have c6 := lt_64_of hT.2.1.2 b2
  obtain ⟨c1, c2⟩ := hC k hk (by
    by_cases z : k = 0
    · exact Or.inl z
    · exact Or.inr (by have := (hp.2 k (by omega) hk).1; omega))
  have l31 := hD.2.1
  obtain ⟨e, he⟩ : ∃ e, e = CM T L p k := ⟨_, rfl⟩
  rw [← he] at r6 c6 c1 c2 ⊢
  show Wp d 254 0 [(2, ((116 : Nat) : Int)), (0, (k : Int))] [] M mc ms _
  refine g_aload_n lk_254_0 rfl ?_
  refine g_getfield lk_254_1 rfl (lay.on (by decide) rfl) (v := ((153 : Nat) : Int)) (lay.rf rfl) ?_
  refine g_iload_n lk_254_4 rfl ?_
  refine m_iaload (u := []) (M := M) lk_254_5 (lay.ay (by decide) rfl) (by omega) (j := k) (by omega) (v := (e.1 : Int)) c1 ?_
  refine g_if (t := 18) lk_254_6 rfl (by first | (unfold pm_inI; omega) | exact pm_and_in _ _ | exact pm_shr_in _ _ | exact pm_or_in _ _ | exact pm_xor_in _ _ | exact pm_shl_in _ _ | exact pm_cmp_in _ _ | exact pm_b8_in _ | (unfold pm_inI; split <;> omega)) (fun h1 => ?_) (fun h1 => ?_)
  · replace h1 : (e.1 : Int) = 0 := h1
    refine g_iconst lk_254_18 ?_
    refine g_goto (t := 23) lk_254_19 rfl ?_
    refine g_ireturn lk_254_23 (fun _ => by omega) ?_
    exact ⟨by rw [if_pos (Or.inl (by omega))], rfl⟩
  · replace h1 : ¬ ((e.1 : Int) = 0) := h1
    refine g_aload_n lk_254_9 rfl ?_
    refine g_getfield lk_254_10 rfl (lay.on (by decide) rfl) (v := ((154 : Nat) : Int)) (lay.rf rfl) ?_
    refine g_iload_n lk_254_13 rfl ?_
    refine m_iaload (u := []) (M := M) lk_254_14 (lay.ay (by decide) rfl) (by omega) (j := k) (by omega) (v := (e.2.1 : Int)) c2 ?_
    refine g_if (t := 22) lk_254_15 rfl (by first | (unfold pm_inI; omega) | exact pm_and_in _ _ | exact pm_shr_in _ _ | exact pm_or_in _ _ | exact pm_xor_in _ _ | exact pm_shl_in _ _ | exact pm_cmp_in _ _ | exact pm_b8_in _ | (unfold pm_inI; split <;> omega)) (fun h2 => ?_) (fun h2 => ?_)
    · replace h2 : ¬ (e.2.1 : Int) = 0 := h2
      refine g_iconst lk_254_22 ?_
      refine g_ireturn lk_254_23 (fun _ => by omega) ?_
      exact ⟨by rw [if_neg (by omega)], rfl⟩
    · replace h2 : ¬ (¬ (e.2.1 : Int) = 0) := h2
      refine g_iconst lk_254_18 ?_
      refine g_goto (t := 23) lk_254_19 rfl ?_
      refine g_ireturn lk_254_23 (fun _ => by omega) ?_
      exact ⟨by rw [if_pos (Or.inr (by omega))], rfl⟩
