/-! ===== the model: the tree told ===== -/
def Bel (N N' : pm_M) (t : Nat) : Prop := ∀ j, j < t → pm_ct N' 148 j = pm_ct N 148 j ∧ pm_ct N' 149 j = pm_ct N 149 j ∧ pm_ct N' 150 j = pm_ct N 150 j
theorem Bel.trans {N P R : pm_M} {t : Nat} (h : Bel N P t) (k : Bel P R t) : Bel N R t := fun j hj => ⟨(k j hj).1.trans (h j hj).1, (k j hj).2.1.trans (h j hj).2.1, (k j hj).2.2.trans (h j hj).2.2⟩
theorem Bel.le {N P : pm_M} {t u : Nat} (h : Bel N P u) (hu : t ≤ u) : Bel N P t := fun j hj => h j (by omega)
def Sec (L L' : List Nd) (o : Int) : Prop := (o = -1 ∧ L' = L) ∨ ∃ (A : List Nd) (x y : Nat) (z : Int) (B : List Nd), L = A ++ [(x, y, z)] ++ B ∧ L' = A ++ [(x, y, (L.length : Int))] ++ B ∧ o = (A.length : Int)
theorem Sec.len {L L' : List Nd} {o : Int} (h : Sec L L' o) : L'.length = L.length := by
  rcases h with ⟨_, e⟩ | ⟨A, x, y, z, B, e1, e2, _⟩
  · rw [e]
  · rw [e2, e1]; simp
set_option maxHeartbeats 1000000 in
theorem tree_go {d mc ms : Nat} {M : pm_M} {T : Tab} (hT : TabOK T) (hM0 : MoAt M T) (hL0 : LdOK M T) {h : Nat} (hh : h < 3) (Q : pm_Q) : ∀ (n rs cs t : Nat) (o : Int) (L L' : List Nd) (N : pm_M) (v3 v4 v5 v6 v7 : pm_V), inT T rs cs → pop rs + pop cs ≤ n → t + n ≤ 12 → Lay N → MF [145, 146, 147, 148, 149, 150] [56] M N → pm_ct N 148 t = (rs : Int) → pm_ct N 149 t = (cs : Int) → pm_ct N 150 t = o → pm_ct N 116 56 = (L.length : Int) → NdL N 145 146 147 L → Sec L L' o → L.length + (gt T h n rs cs L.length).length ≤ 71 → (∀ (N' : pm_M) (u3 u4 u5 u6 u7 : pm_V), Lay N' → MF [145, 146, 147, 148, 149, 150] [56] M N' → Bel N N' t → pm_ct N' 116 56 = ((L' ++ gt T h n rs cs L.length).length : Int) → NdL N' 145 146 147 (L' ++ gt T h n rs cs L.length) → Wp (d + 5) 244 38 [(2, ((116 : Nat) : Int)), (0, (h : Int)), (0, (t : Int)), u3, u4, u5, u6, u7] [] N' mc ms Q) →
    Wp (d + 5) 244 38 [(2, ((116 : Nat) : Int)), (0, (h : Int)), (0, ((t + 1 : Nat) : Int)), v3, v4, v5, v6, v7] [] N mc ms Q := by
  intro n
  induction n with
  | zero =>
    intro rs cs t o L L' N v3 v4 v5 v6 v7 hi hp
    obtain ⟨h1, h2⟩ := hi.r hT
    have popp : ∀ s : Fin 64, (s : Nat) ≠ 0 → 1 ≤ pop (s : Nat) := by decide +kernel
    have r1 : 1 ≤ pop rs := popp ⟨rs, h1⟩ (by have := hi.1; show rs ≠ 0; omega)
    omega
  | succ n ih =>
    intro rs cs t o L L' N v3 v4 v5 v6 v7 hi hp htn layN mfN a148 a149 a150 a56 hNd hS h71 hcont
    obtain ⟨r64, c64⟩ := hi.r hT
    have vl := vIn_lt T rs cs
    have lenL := hS.len
    obtain ⟨k, hk⟩ : ∃ k, k = L.length := ⟨_, rfl⟩
    rw [← hk] at a56 h71 hcont lenL
    have moF : ∀ {K : pm_M}, MF [145, 146, 147, 148, 149, 150] [56] M K → MoAt K T := fun f => hM0.mf f (by decide) (by decide) (by decide) (by decide)
    have ldF : ∀ {K : pm_M}, MF [145, 146, 147, 148, 149, 150] [56] M K → LdOK K T := fun f a b hab => (hL0 a b hab).of (f.ct (by decide) (by decide)) (f.ct (by decide) (by decide)) (f.ct (by decide) (by decide))
    have mus : ∀ (K : pm_M) (l : List (Nat × (Nat → Int))), (l.all (fun q => [145, 146, 147, 148, 149, 150].elem q.1)) = true → MF [145, 146, 147, 148, 149, 150] [56] M K → MF [145, 146, 147, 148, 149, 150] [56] M (Mu l K) := fun K l hl f => by
      have fr := Fr.mu K l hl
      exact f.trans ⟨fr.1, fr.2.1, fr.2.2.1, fun a ha _ => fr.ct ha, fun j _ => by rw [fr.ct (by decide)]⟩
    have g1 : 1 ≤ (gt T h (n + 1) rs cs k).length := by
      by_cases hal : pop (vIn T rs cs) < 2
      · rw [gt_leaf hal]; exact Nat.le_refl _
      · by_cases hw : wA T h rs cs ≤ wB T h rs cs
        · rw [gt_A hal hw, List.length_cons]; omega
        · rw [gt_B hal hw, List.length_cons]; omega
    -- two parts wait
    have two : ∀ (K : pm_M) (x p r1 c1 r2 c2 : Nat) (v3 v4 v5 v6 v7 : pm_V), Lay K → MF [145, 146, 147, 148, 149, 150] [56] M K → Bel N K t → pm_ct K 116 56 = ((k + 1 : Nat) : Int) → NdL K 145 146 147 (L' ++ [(x, p, -1)]) → pm_ct K 148 t = (r2 : Int) → pm_ct K 149 t = (c2 : Int) → pm_ct K 150 t = (k : Int) → pm_ct K 148 (t + 1) = (r1 : Int) → pm_ct K 149 (t + 1) = (c1 : Int) → pm_ct K 150 (t + 1) = -1 → inT T r1 c1 → inT T r2 c2 → pop r1 + pop c1 ≤ n → pop r2 + pop c2 ≤ n → gt T h (n + 1) rs cs k = (x, p, ((k + 1 + (gt T h n r1 c1 (k + 1)).length : Nat) : Int)) :: (gt T h n r1 c1 (k + 1) ++ gt T h n r2 c2 (k + 1 + (gt T h n r1 c1 (k + 1)).length)) → Wp (d + 5) 244 38 [(2, ((116 : Nat) : Int)), (0, (h : Int)), (0, ((t + 1 + 1 : Nat) : Int)), v3, v4, v5, v6, v7] [] K mc ms Q := by
      intro K x p r1 c1 r2 c2 v3 v4 v5 v6 v7 layK mfK bK b56 hNK b1 b2 b3 b4 b5 b6 i1 i2 p1 p2 eg
      obtain ⟨G1, hG1⟩ : ∃ G, G = gt T h n r1 c1 (k + 1) := ⟨_, rfl⟩
      obtain ⟨G2, hG2⟩ : ∃ G, G = gt T h n r2 c2 (k + 1 + G1.length) := ⟨_, rfl⟩
      rw [← hG1, ← hG2] at eg
      rw [eg] at h71 hcont
      rw [List.length_cons, List.length_append] at h71
      have e1 : (L' ++ [((x, p, -1) : Nd)]).length = k + 1 := by rw [List.length_append, lenL]; rfl
      have e2 : (L' ++ [((x, p, -1) : Nd)] ++ G1).length = k + 1 + G1.length := by rw [List.length_append, e1]
      refine ih r1 c1 (t + 1) (-1) (L' ++ [(x, p, -1)]) (L' ++ [(x, p, -1)]) K v3 v4 v5 v6 v7 i1 p1 (by omega) layK mfK b4 b5 b6 (by rw [e1]; exact b56) hNK (Or.inl ⟨rfl, rfl⟩) (by rw [e1, ← hG1]; omega) ?_
      rw [e1, ← hG1]
      intro P u3 u4 u5 u6 u7 layP mfP bP c56 hNP
      have bt := bP t (by omega)
      refine ih r2 c2 t (k : Int) (L' ++ [(x, p, -1)] ++ G1) (L' ++ [(x, p, ((k + 1 + G1.length : Nat) : Int))] ++ G1) P u3 u4 u5 u6 u7 i2 p2 (by omega) layP mfP (bt.1.trans b1) (bt.2.1.trans b2) (bt.2.2.trans b3) c56 hNP (Or.inr ⟨L', x, p, -1, G1, rfl, by rw [e2], by rw [lenL]⟩) (by rw [e2, ← hG2]; omega) ?_
      rw [e2, ← hG2]
      intro P2 w3 w4 w5 w6 w7 lay2 mf2 bP2 d56 hN2
      have ea : L' ++ [(x, p, ((k + 1 + G1.length : Nat) : Int))] ++ G1 ++ G2 = L' ++ (x, p, ((k + 1 + G1.length : Nat) : Int)) :: (G1 ++ G2) := by simp
      rw [ea] at d56 hN2
      exact hcont P2 w3 w4 w5 w6 w7 lay2 mf2 (bK.trans ((bP.le (by omega)).trans bP2)) d56 hN2
    have k98 : ∀ (K : pm_M) (v6 v7 : pm_V), Lay K → MF [145, 146, 147, 148, 149, 150] [56] M K → Bel N K t → pm_ct K 116 56 = ((k + 1 : Nat) : Int) → NdL K 145 146 147 L' → Wp (d + 5) 244 98 [(2, ((116 : Nat) : Int)), (0, (h : Int)), (0, (t : Int)), (0, (rs : Int)), (0, (cs : Int)), (0, (k : Int)), v6, v7] [] K mc ms Q := by
      intro K v6 v7 layK mfK bK b56 hNK
      by_cases hal : pop (vIn T rs cs) < 2
      · have eg := gt_leaf (T := T) (h := h) (n := n) (rs := rs) (cs := cs) (k := k) hal
        rw [eg] at hcont
        have ia : ∀ (P : pm_M), Lay P → MoAt P T → ∀ d, pm_E (d + 2) 234 [(2, ((116 : Nat) : Int)), (0, (rs : Int)), (0, (cs : Int))] P 0 0 (fun ρ M' => ρ = some (0, 1) ∧ M' = P) := fun P l m d => by
          have := c_Mo_isAlike (d := d) (mc := 0) (ms := 0) l hT m r64 c64
          rw [if_pos hal] at this
          exact this
        have e1 : (L' ++ [((0, lfv T rs cs, -1) : Nd)]).length = k + 1 := by rw [List.length_append, lenL]; rfl
        refine g_aload_n lk_244_98 rfl ?_
        refine g_getfield lk_244_99 rfl (layK.on (by decide) rfl) (v := ((147 : Nat) : Int)) (layK.rf rfl) ?_
        refine g_iload lk_244_102 rfl ?_
        refine g_iconst lk_244_104 ?_
        have lay1 : Lay (Mu [(147, pm_upd (pm_ct K 147) k (-1))] K) := layK.muA (l := []) (a := 147) (f := pm_upd (pm_ct K 147) k (-1)) rfl rfl
        refine m_iastore (u := []) (u' := [(147, pm_upd (pm_ct K 147) k (-1))]) (M := K) lk_244_105 (layK.ay (by decide) rfl) (by omega) (j := k) (by omega) rfl ?_
        refine g_aload_n lk_244_106 rfl ?_
        refine g_iload_n lk_244_107 rfl ?_
        refine g_iload lk_244_108 rfl ?_
        refine g_virtual (p := 116) (Qc := _) lk_244_110 rfl (Nat.le_of_ble_eq_true rfl) rfl rfl (lay1.on (by decide) rfl) (Nat.le_of_ble_eq_true rfl) (Nat.le_of_ble_eq_true rfl) (Nat.zero_le _) (Nat.zero_le _) (ia _ lay1 (moF (mus _ _ rfl mfK)) _) ?_
        rintro _ N2 ⟨rfl, hN2⟩
        rw [hN2]
        show Wp _ 244 113 [(2, ((116 : Nat) : Int)), (0, (h : Int)), (0, (t : Int)), (0, (rs : Int)), (0, (cs : Int)), (0, (k : Int)), v6, v7] [(0, 1)] (Mu [(147, pm_upd (pm_ct K 147) k (-1))] K) _ _ _
        refine g_if (t := 157) lk_244_113 rfl (by first | (unfold pm_inI; omega) | exact pm_and_in _ _ | exact pm_shr_in _ _ | exact pm_or_in _ _ | exact pm_xor_in _ _ | exact pm_shl_in _ _ | exact pm_cmp_in _ _ | exact pm_b8_in _ | (unfold pm_inI; split <;> omega)) (fun h => absurd h (show ¬ ((1 : Int) = (0 : Int)) by omega)) (fun _ => ?_)
        refine g_aload_n lk_244_116 rfl ?_
        refine g_iload_n lk_244_117 rfl ?_
        refine g_iload lk_244_118 rfl ?_
        refine g_virtual (p := 116) (Qc := _) lk_244_120 rfl (Nat.le_of_ble_eq_true rfl) rfl rfl (lay1.on (by decide) rfl) (Nat.le_of_ble_eq_true rfl) (Nat.le_of_ble_eq_true rfl) (Nat.zero_le _) (Nat.zero_le _) (c_Mo_valuesIn lay1 hT (moF (mus _ _ rfl mfK)) r64 c64) ?_
        rintro _ N3 ⟨rfl, hN3⟩
        rw [hN3]
        show Wp _ 244 123 [(2, ((116 : Nat) : Int)), (0, (h : Int)), (0, (t : Int)), (0, (rs : Int)), (0, (cs : Int)), (0, (k : Int)), v6, v7] [(0, (vIn T rs cs : Int))] (Mu [(147, pm_upd (pm_ct K 147) k (-1))] K) _ _ _
        refine g_istore (ls' := [(2, ((116 : Nat) : Int)), (0, (h : Int)), (0, (t : Int)), (0, (rs : Int)), (0, (cs : Int)), (0, (k : Int)), (0, (vIn T rs cs : Int)), v7]) lk_244_123 rfl rfl ?_
        refine g_aload_n lk_244_125 rfl ?_
        refine g_getfield lk_244_126 rfl (lay1.on (by decide) rfl) (v := ((145 : Nat) : Int)) (lay1.rf rfl) ?_
        refine g_iload lk_244_129 rfl ?_
        refine g_iconst lk_244_131 ?_
        have lay4 : Lay (Mu [(147, pm_upd (pm_ct K 147) k (-1)), (145, pm_upd (pm_ct K 145) k 0)] K) := lay1.muA (l := [(147, pm_upd (pm_ct K 147) k (-1))]) (a := 145) (f := pm_upd (pm_ct K 145) k 0) rfl rfl
        refine m_iastore (u := [(147, pm_upd (pm_ct K 147) k (-1))]) (u' := [(147, pm_upd (pm_ct K 147) k (-1)), (145, pm_upd (pm_ct K 145) k 0)]) (M := K) lk_244_132 (lay1.ay (by decide) rfl) (by omega) (j := k) (by omega) rfl ?_
        refine g_aload_n lk_244_133 rfl ?_
        refine g_getfield lk_244_134 rfl (lay4.on (by decide) rfl) (v := ((146 : Nat) : Int)) (lay4.rf rfl) ?_
        refine g_iload lk_244_137 rfl ?_
        refine g_iload lk_244_139 rfl ?_
        refine g_if (t := 148) lk_244_141 rfl (by first | (unfold pm_inI; omega) | exact pm_and_in _ _ | exact pm_shr_in _ _ | exact pm_or_in _ _ | exact pm_xor_in _ _ | exact pm_shl_in _ _ | exact pm_cmp_in _ _ | exact pm_b8_in _ | (unfold pm_inI; split <;> omega)) (fun h5 => ?_) (fun h5 => ?_)
        · replace h5 : ¬ (vIn T rs cs : Int) = 0 := h5
          refine g_iload lk_244_148 rfl ?_
          refine g_static (Qc := _) lk_244_150 (by decide) rfl (Nat.le_of_ble_eq_true rfl) rfl rfl (Nat.le_of_ble_eq_true rfl) (Nat.le_of_ble_eq_true rfl) (Nat.zero_le _) (Nat.zero_le _) (c_Mo_firstOf vl (by omega)) ?_
          rintro _ N6 ⟨rfl, hN6⟩
          rw [hN6]
          show Wp _ 244 153 [(2, ((116 : Nat) : Int)), (0, (h : Int)), (0, (t : Int)), (0, (rs : Int)), (0, (cs : Int)), (0, (k : Int)), (0, (vIn T rs cs : Int)), v7] [(0, (fstb (vIn T rs cs) : Int)), (0, (k : Int)), (2, ((146 : Nat) : Int))] (Mu [(147, pm_upd (pm_ct K 147) k (-1)), (145, pm_upd (pm_ct K 145) k 0)] K) _ _ _
          have lay7 : Lay (Mu [(147, pm_upd (pm_ct K 147) k (-1)), (145, pm_upd (pm_ct K 145) k 0), (146, pm_upd (pm_ct K 146) k (fstb (vIn T rs cs) : Int))] K) := lay4.muA (l := [(147, pm_upd (pm_ct K 147) k (-1)), (145, pm_upd (pm_ct K 145) k 0)]) (a := 146) (f := pm_upd (pm_ct K 146) k (fstb (vIn T rs cs) : Int)) rfl rfl
          refine m_iastore (u := [(147, pm_upd (pm_ct K 147) k (-1)), (145, pm_upd (pm_ct K 145) k 0)]) (u' := [(147, pm_upd (pm_ct K 147) k (-1)), (145, pm_upd (pm_ct K 145) k 0), (146, pm_upd (pm_ct K 146) k (fstb (vIn T rs cs) : Int))]) (M := K) lk_244_153 (lay4.ay (by decide) rfl) (by omega) (j := k) (by omega) rfl ?_
          refine g_goto (t := 38) lk_244_154 rfl ?_
          have ev : lfv T rs cs = fstb (vIn T rs cs) := by unfold lfv; rw [if_neg (by omega)]
          refine hcont _ _ _ _ _ _ lay7 (mus _ _ rfl mfK) (bK.trans (fun j _ => ⟨by rw [Mu_ct]; rfl, by rw [Mu_ct]; rfl, by rw [Mu_ct]; rfl⟩)) (by rw [e1, Mu_ct]; exact b56) (hNK.push (x := 0) lenL.symm (by rw [Mu_ct]; rfl) (by rw [Mu_ct, ev]; rfl) (by rw [Mu_ct]; rfl))
        · replace h5 : ¬ (¬ (vIn T rs cs : Int) = 0) := h5
          refine g_iconst lk_244_144 ?_
          refine g_goto (t := 153) lk_244_145 rfl ?_
          have lay8 : Lay (Mu [(147, pm_upd (pm_ct K 147) k (-1)), (145, pm_upd (pm_ct K 145) k 0), (146, pm_upd (pm_ct K 146) k 0)] K) := lay4.muA (l := [(147, pm_upd (pm_ct K 147) k (-1)), (145, pm_upd (pm_ct K 145) k 0)]) (a := 146) (f := pm_upd (pm_ct K 146) k 0) rfl rfl
          refine m_iastore (u := [(147, pm_upd (pm_ct K 147) k (-1)), (145, pm_upd (pm_ct K 145) k 0)]) (u' := [(147, pm_upd (pm_ct K 147) k (-1)), (145, pm_upd (pm_ct K 145) k 0), (146, pm_upd (pm_ct K 146) k 0)]) (M := K) lk_244_153 (lay4.ay (by decide) rfl) (by omega) (j := k) (by omega) rfl ?_
          refine g_goto (t := 38) lk_244_154 rfl ?_
          have ev : lfv T rs cs = 0 := by unfold lfv; rw [if_pos (by omega)]
          refine hcont _ _ _ _ _ _ lay8 (mus _ _ rfl mfK) (bK.trans (fun j _ => ⟨by rw [Mu_ct]; rfl, by rw [Mu_ct]; rfl, by rw [Mu_ct]; rfl⟩)) (by rw [e1, Mu_ct]; exact b56) (hNK.push (x := 0) lenL.symm (by rw [Mu_ct]; rfl) (by rw [Mu_ct, ev]; rfl) (by rw [Mu_ct]; rfl))
      have ia : ∀ (P : pm_M), Lay P → MoAt P T → ∀ d, pm_E (d + 2) 234 [(2, ((116 : Nat) : Int)), (0, (rs : Int)), (0, (cs : Int))] P 0 0 (fun ρ M' => ρ = some (0, 0) ∧ M' = P) := fun P l m d => by
        have := c_Mo_isAlike (d := d) (mc := 0) (ms := 0) l hT m r64 c64
        rw [if_neg hal] at this
        exact this
      by_cases hw : wA T h rs cs ≤ wB T h rs cs
      · have eg := gt_A (T := T) (h := h) (n := n) (rs := rs) (cs := cs) (k := k) hal hw
        obtain ⟨x1, x2, -, -⟩ := pk_is (pick_A hT hi hal hw)
        have sf := sfA_yes hT hi hal hw
        obtain ⟨p, hp'⟩ : ∃ p, p = pA T h rs cs := ⟨_, rfl⟩
        replace x1 : p < rs := by rw [hp']; exact x1
        replace x2 : spC rs p = true := by rw [hp']; exact x2
        rw [← hp'] at eg sf
        obtain ⟨y1, y2, -, -, y5, y6, y7⟩ := spC_s r64 (by have := hi.1; omega) x1 x2
        have in1 : inT T p cs := ⟨y1, by have := hi.2.1; omega, hi.2.2.1, hi.2.2.2⟩
        have in2 : inT T (rs - p) cs := ⟨y2, by have := hi.2.1; omega, hi.2.2.1, hi.2.2.2⟩
        obtain ⟨-, -, t3⟩ := part_tab ⟨rs, r64⟩ ⟨p, by omega⟩
        replace t3 : pm_and (rs : Int) (pm_xor (p : Int) (-1)) = ((rs - p : Nat) : Int) := t3 (spC_sub x2)
        have sfr : ∀ (P : pm_M), Lay P → MF [145, 146, 147, 148, 149, 150] [56] M P → pm_E (d + 4) 243 [(2, ((116 : Nat) : Int)), (0, (h : Int)), (0, 1), (0, (rs : Int)), (0, (cs : Int))] P 0 0 (fun ρ M' => ρ = some (0, (p : Int)) ∧ M' = P) := fun P l m => by
          have := c_Mo_setFor1 (d := d + 1) (mc := 0) (ms := 0) l hT (moF m) (ldF m) hh hi
          rw [sf] at this
          exact this
        refine g_aload_n lk_244_98 rfl ?_
        refine g_getfield lk_244_99 rfl (layK.on (by decide) rfl) (v := ((147 : Nat) : Int)) (layK.rf rfl) ?_
        refine g_iload lk_244_102 rfl ?_
        refine g_iconst lk_244_104 ?_
        have lay1 : Lay (Mu [(147, pm_upd (pm_ct K 147) k (-1))] K) := layK.muA (l := []) (a := 147) (f := pm_upd (pm_ct K 147) k (-1)) rfl rfl
        refine m_iastore (u := []) (u' := [(147, pm_upd (pm_ct K 147) k (-1))]) (M := K) lk_244_105 (layK.ay (by decide) rfl) (by omega) (j := k) (by omega) rfl ?_
        refine g_aload_n lk_244_106 rfl ?_
        refine g_iload_n lk_244_107 rfl ?_
        refine g_iload lk_244_108 rfl ?_
        refine g_virtual (p := 116) (Qc := _) lk_244_110 rfl (Nat.le_of_ble_eq_true rfl) rfl rfl (lay1.on (by decide) rfl) (Nat.le_of_ble_eq_true rfl) (Nat.le_of_ble_eq_true rfl) (Nat.zero_le _) (Nat.zero_le _) (ia _ lay1 (moF (mus _ _ rfl mfK)) _) ?_
        rintro _ N2 ⟨rfl, hN2⟩
        rw [hN2]
        show Wp _ 244 113 [(2, ((116 : Nat) : Int)), (0, (h : Int)), (0, (t : Int)), (0, (rs : Int)), (0, (cs : Int)), (0, (k : Int)), v6, v7] [(0, 0)] (Mu [(147, pm_upd (pm_ct K 147) k (-1))] K) _ _ _
        refine g_if (t := 157) lk_244_113 rfl (by first | (unfold pm_inI; omega) | exact pm_and_in _ _ | exact pm_shr_in _ _ | exact pm_or_in _ _ | exact pm_xor_in _ _ | exact pm_shl_in _ _ | exact pm_cmp_in _ _ | exact pm_b8_in _ | (unfold pm_inI; split <;> omega)) (fun _ => ?_) (fun h => absurd (show (0 : Int) = (0 : Int) by omega) h)
        refine g_aload_n lk_244_157 rfl ?_
        refine g_iload_n lk_244_158 rfl ?_
        refine g_iconst lk_244_159 ?_
        refine g_iload_n lk_244_160 rfl ?_
        refine g_iload lk_244_161 rfl ?_
        refine g_virtual (p := 116) (Qc := _) lk_244_163 rfl (Nat.le_of_ble_eq_true rfl) rfl rfl (lay1.on (by decide) rfl) (Nat.le_of_ble_eq_true rfl) (Nat.le_of_ble_eq_true rfl) (Nat.zero_le _) (Nat.zero_le _) (sfr _ lay1 (mus _ _ rfl mfK)) ?_
        rintro _ N3 ⟨rfl, hN3⟩
        rw [hN3]
        show Wp _ 244 166 [(2, ((116 : Nat) : Int)), (0, (h : Int)), (0, (t : Int)), (0, (rs : Int)), (0, (cs : Int)), (0, (k : Int)), v6, v7] [(0, (p : Int))] (Mu [(147, pm_upd (pm_ct K 147) k (-1))] K) _ _ _
        refine g_istore (ls' := [(2, ((116 : Nat) : Int)), (0, (h : Int)), (0, (t : Int)), (0, (rs : Int)), (0, (cs : Int)), (0, (k : Int)), (0, (p : Int)), v7]) lk_244_166 rfl rfl ?_
        refine g_aload_n lk_244_168 rfl ?_
        refine g_getfield lk_244_169 rfl (lay1.on (by decide) rfl) (v := ((145 : Nat) : Int)) (lay1.rf rfl) ?_
        refine g_iload lk_244_172 rfl ?_
        refine g_iload lk_244_174 rfl ?_
        refine g_if (t := 183) lk_244_176 rfl (by first | (unfold pm_inI; omega) | exact pm_and_in _ _ | exact pm_shr_in _ _ | exact pm_or_in _ _ | exact pm_xor_in _ _ | exact pm_shl_in _ _ | exact pm_cmp_in _ _ | exact pm_b8_in _ | (unfold pm_inI; split <;> omega)) (fun h4 => ?_) (fun h4 => ?_)
        · replace h4 : (p : Int) ≤ 0 := h4
          omega
        · replace h4 : ¬ ((p : Int) ≤ 0) := h4
          refine g_iconst lk_244_179 ?_
          refine g_goto (t := 184) lk_244_180 rfl ?_
          have lay5 : Lay (Mu [(147, pm_upd (pm_ct K 147) k (-1)), (145, pm_upd (pm_ct K 145) k 1)] K) := lay1.muA (l := [(147, pm_upd (pm_ct K 147) k (-1))]) (a := 145) (f := pm_upd (pm_ct K 145) k 1) rfl rfl
          refine m_iastore (u := [(147, pm_upd (pm_ct K 147) k (-1))]) (u' := [(147, pm_upd (pm_ct K 147) k (-1)), (145, pm_upd (pm_ct K 145) k 1)]) (M := K) lk_244_184 (lay1.ay (by decide) rfl) (by omega) (j := k) (by omega) rfl ?_
          refine g_iload lk_244_185 rfl ?_
          refine g_if (t := 195) lk_244_187 rfl (by first | (unfold pm_inI; omega) | exact pm_and_in _ _ | exact pm_shr_in _ _ | exact pm_or_in _ _ | exact pm_xor_in _ _ | exact pm_shl_in _ _ | exact pm_cmp_in _ _ | exact pm_b8_in _ | (unfold pm_inI; split <;> omega)) (fun h6 => ?_) (fun h6 => ?_)
          · replace h6 : (p : Int) ≤ 0 := h6
            omega
          · replace h6 : ¬ ((p : Int) ≤ 0) := h6
            refine g_iload lk_244_190 rfl ?_
            refine g_goto (t := 204) lk_244_192 rfl ?_
            refine g_istore (ls' := [(2, ((116 : Nat) : Int)), (0, (h : Int)), (0, (t : Int)), (0, (rs : Int)), (0, (cs : Int)), (0, (k : Int)), (0, (p : Int)), v7]) lk_244_204 rfl rfl ?_
            refine g_aload_n lk_244_206 rfl ?_
            refine g_getfield lk_244_207 rfl (lay5.on (by decide) rfl) (v := ((146 : Nat) : Int)) (lay5.rf rfl) ?_
            refine g_iload lk_244_210 rfl ?_
            refine g_iload lk_244_212 rfl ?_
            have lay7 : Lay (Mu [(147, pm_upd (pm_ct K 147) k (-1)), (145, pm_upd (pm_ct K 145) k 1), (146, pm_upd (pm_ct K 146) k (p : Int))] K) := lay5.muA (l := [(147, pm_upd (pm_ct K 147) k (-1)), (145, pm_upd (pm_ct K 145) k 1)]) (a := 146) (f := pm_upd (pm_ct K 146) k (p : Int)) rfl rfl
            refine m_iastore (u := [(147, pm_upd (pm_ct K 147) k (-1)), (145, pm_upd (pm_ct K 145) k 1)]) (u' := [(147, pm_upd (pm_ct K 147) k (-1)), (145, pm_upd (pm_ct K 145) k 1), (146, pm_upd (pm_ct K 146) k (p : Int))]) (M := K) lk_244_214 (lay5.ay (by decide) rfl) (by omega) (j := k) (by omega) rfl ?_
            refine g_aload_n lk_244_215 rfl ?_
            refine g_getfield lk_244_216 rfl (lay7.on (by decide) rfl) (v := ((145 : Nat) : Int)) (lay7.rf rfl) ?_
            refine g_iload lk_244_219 rfl ?_
            refine m_iaload (u := [(147, pm_upd (pm_ct K 147) k (-1)), (145, pm_upd (pm_ct K 145) k 1), (146, pm_upd (pm_ct K 146) k (p : Int))]) (M := K) lk_244_221 (lay7.ay (by decide) rfl) (by omega) (j := k) (by omega) (v := 1) (by first | rfl | exact pm_upd_eq _ _ _) ?_
            refine g_iconst lk_244_222 ?_
            refine g_icmp (t := 230) lk_244_223 rfl (by first | (unfold pm_inI; omega) | exact pm_and_in _ _ | exact pm_shr_in _ _ | exact pm_or_in _ _ | exact pm_xor_in _ _ | exact pm_shl_in _ _ | exact pm_cmp_in _ _ | exact pm_b8_in _ | (unfold pm_inI; split <;> omega)) (by first | (unfold pm_inI; omega) | exact pm_and_in _ _ | exact pm_shr_in _ _ | exact pm_or_in _ _ | exact pm_xor_in _ _ | exact pm_shl_in _ _ | exact pm_cmp_in _ _ | exact pm_b8_in _ | (unfold pm_inI; split <;> omega)) (fun h => absurd h (show ¬ (¬ (1 : Int) = (1 : Int)) by omega)) (fun _ => ?_)
            refine g_iconst lk_244_226 ?_
            refine g_goto (t := 231) lk_244_227 rfl ?_
            refine g_istore (ls' := [(2, ((116 : Nat) : Int)), (0, (h : Int)), (0, (t : Int)), (0, (rs : Int)), (0, (cs : Int)), (0, (k : Int)), (0, (p : Int)), (0, 1)]) lk_244_231 rfl rfl ?_
            refine g_aload_n lk_244_233 rfl ?_
            refine g_getfield lk_244_234 rfl (lay7.on (by decide) rfl) (v := ((148 : Nat) : Int)) (lay7.rf rfl) ?_
            refine g_iload_n lk_244_237 rfl ?_
            refine g_iload lk_244_238 rfl ?_
            refine g_if (t := 252) lk_244_240 rfl (by first | (unfold pm_inI; omega) | exact pm_and_in _ _ | exact pm_shr_in _ _ | exact pm_or_in _ _ | exact pm_xor_in _ _ | exact pm_shl_in _ _ | exact pm_cmp_in _ _ | exact pm_b8_in _ | (unfold pm_inI; split <;> omega)) (fun h => absurd h (show ¬ ((1 : Int) = (0 : Int)) by omega)) (fun _ => ?_)
            refine g_iload_n lk_244_243 rfl ?_
            refine g_iload lk_244_244 rfl ?_
            refine g_iconst lk_244_246 ?_
            refine g_ixor lk_244_247 ?_
            refine g_iand lk_244_248 ?_
            refine g_top (z := (pm_and (rs : Int) (pm_xor (p : Int) (-1)))) (z' := ((rs - p : Nat) : Int)) (t3) ?_
            refine g_goto (t := 253) lk_244_249 rfl ?_
            have lay8 : Lay (Mu [(147, pm_upd (pm_ct K 147) k (-1)), (145, pm_upd (pm_ct K 145) k 1), (146, pm_upd (pm_ct K 146) k (p : Int)), (148, pm_upd (pm_ct K 148) t ((rs - p : Nat) : Int))] K) := lay7.muA (l := [(147, pm_upd (pm_ct K 147) k (-1)), (145, pm_upd (pm_ct K 145) k 1), (146, pm_upd (pm_ct K 146) k (p : Int))]) (a := 148) (f := pm_upd (pm_ct K 148) t ((rs - p : Nat) : Int)) rfl rfl
            refine m_iastore (u := [(147, pm_upd (pm_ct K 147) k (-1)), (145, pm_upd (pm_ct K 145) k 1), (146, pm_upd (pm_ct K 146) k (p : Int))]) (u' := [(147, pm_upd (pm_ct K 147) k (-1)), (145, pm_upd (pm_ct K 145) k 1), (146, pm_upd (pm_ct K 146) k (p : Int)), (148, pm_upd (pm_ct K 148) t ((rs - p : Nat) : Int))]) (M := K) lk_244_253 (lay7.ay (by decide) rfl) (by omega) (j := t) (by omega) rfl ?_
            refine g_aload_n lk_244_254 rfl ?_
            refine g_getfield lk_244_255 rfl (lay8.on (by decide) rfl) (v := ((149 : Nat) : Int)) (lay8.rf rfl) ?_
            refine g_iload_n lk_244_258 rfl ?_
            refine g_iload lk_244_259 rfl ?_
            refine g_if (t := 269) lk_244_261 rfl (by first | (unfold pm_inI; omega) | exact pm_and_in _ _ | exact pm_shr_in _ _ | exact pm_or_in _ _ | exact pm_xor_in _ _ | exact pm_shl_in _ _ | exact pm_cmp_in _ _ | exact pm_b8_in _ | (unfold pm_inI; split <;> omega)) (fun h => absurd h (show ¬ ((1 : Int) = (0 : Int)) by omega)) (fun _ => ?_)
            refine g_iload lk_244_264 rfl ?_
            refine g_goto (t := 276) lk_244_266 rfl ?_
            have lay9 : Lay (Mu [(147, pm_upd (pm_ct K 147) k (-1)), (145, pm_upd (pm_ct K 145) k 1), (146, pm_upd (pm_ct K 146) k (p : Int)), (148, pm_upd (pm_ct K 148) t ((rs - p : Nat) : Int)), (149, pm_upd (pm_ct K 149) t (cs : Int))] K) := lay8.muA (l := [(147, pm_upd (pm_ct K 147) k (-1)), (145, pm_upd (pm_ct K 145) k 1), (146, pm_upd (pm_ct K 146) k (p : Int)), (148, pm_upd (pm_ct K 148) t ((rs - p : Nat) : Int))]) (a := 149) (f := pm_upd (pm_ct K 149) t (cs : Int)) rfl rfl
            refine m_iastore (u := [(147, pm_upd (pm_ct K 147) k (-1)), (145, pm_upd (pm_ct K 145) k 1), (146, pm_upd (pm_ct K 146) k (p : Int)), (148, pm_upd (pm_ct K 148) t ((rs - p : Nat) : Int))]) (u' := [(147, pm_upd (pm_ct K 147) k (-1)), (145, pm_upd (pm_ct K 145) k 1), (146, pm_upd (pm_ct K 146) k (p : Int)), (148, pm_upd (pm_ct K 148) t ((rs - p : Nat) : Int)), (149, pm_upd (pm_ct K 149) t (cs : Int))]) (M := K) lk_244_276 (lay8.ay (by decide) rfl) (by omega) (j := t) (by omega) rfl ?_
            refine g_aload_n lk_244_277 rfl ?_
            refine g_getfield lk_244_278 rfl (lay9.on (by decide) rfl) (v := ((150 : Nat) : Int)) (lay9.rf rfl) ?_
            refine g_iload_n lk_244_281 rfl ?_
            refine g_iload lk_244_282 rfl ?_
            have lay10 : Lay (Mu [(147, pm_upd (pm_ct K 147) k (-1)), (145, pm_upd (pm_ct K 145) k 1), (146, pm_upd (pm_ct K 146) k (p : Int)), (148, pm_upd (pm_ct K 148) t ((rs - p : Nat) : Int)), (149, pm_upd (pm_ct K 149) t (cs : Int)), (150, pm_upd (pm_ct K 150) t (k : Int))] K) := lay9.muA (l := [(147, pm_upd (pm_ct K 147) k (-1)), (145, pm_upd (pm_ct K 145) k 1), (146, pm_upd (pm_ct K 146) k (p : Int)), (148, pm_upd (pm_ct K 148) t ((rs - p : Nat) : Int)), (149, pm_upd (pm_ct K 149) t (cs : Int))]) (a := 150) (f := pm_upd (pm_ct K 150) t (k : Int)) rfl rfl
            refine m_iastore (u := [(147, pm_upd (pm_ct K 147) k (-1)), (145, pm_upd (pm_ct K 145) k 1), (146, pm_upd (pm_ct K 146) k (p : Int)), (148, pm_upd (pm_ct K 148) t ((rs - p : Nat) : Int)), (149, pm_upd (pm_ct K 149) t (cs : Int))]) (u' := [(147, pm_upd (pm_ct K 147) k (-1)), (145, pm_upd (pm_ct K 145) k 1), (146, pm_upd (pm_ct K 146) k (p : Int)), (148, pm_upd (pm_ct K 148) t ((rs - p : Nat) : Int)), (149, pm_upd (pm_ct K 149) t (cs : Int)), (150, pm_upd (pm_ct K 150) t (k : Int))]) (M := K) lk_244_284 (lay9.ay (by decide) rfl) (by omega) (j := t) (by omega) rfl ?_
            refine g_aload_n lk_244_285 rfl ?_
            refine g_getfield lk_244_286 rfl (lay10.on (by decide) rfl) (v := ((148 : Nat) : Int)) (lay10.rf rfl) ?_
            refine g_iload_n lk_244_289 rfl ?_
            refine g_iconst lk_244_290 ?_
            refine g_iadd lk_244_291 ?_
            refine g_iload lk_244_292 rfl ?_
            refine g_if (t := 302) lk_244_294 rfl (by first | (unfold pm_inI; omega) | exact pm_and_in _ _ | exact pm_shr_in _ _ | exact pm_or_in _ _ | exact pm_xor_in _ _ | exact pm_shl_in _ _ | exact pm_cmp_in _ _ | exact pm_b8_in _ | (unfold pm_inI; split <;> omega)) (fun h => absurd h (show ¬ ((1 : Int) = (0 : Int)) by omega)) (fun _ => ?_)
            refine g_iload lk_244_297 rfl ?_
            refine g_goto (t := 303) lk_244_299 rfl ?_
            have lay11 : Lay (Mu [(147, pm_upd (pm_ct K 147) k (-1)), (145, pm_upd (pm_ct K 145) k 1), (146, pm_upd (pm_ct K 146) k (p : Int)), (148, pm_upd (pm_upd (pm_ct K 148) t ((rs - p : Nat) : Int)) (t + 1) (p : Int)), (149, pm_upd (pm_ct K 149) t (cs : Int)), (150, pm_upd (pm_ct K 150) t (k : Int))] K) := lay10.muA (l := [(147, pm_upd (pm_ct K 147) k (-1)), (145, pm_upd (pm_ct K 145) k 1), (146, pm_upd (pm_ct K 146) k (p : Int)), (148, pm_upd (pm_ct K 148) t ((rs - p : Nat) : Int)), (149, pm_upd (pm_ct K 149) t (cs : Int)), (150, pm_upd (pm_ct K 150) t (k : Int))]) (a := 148) (f := pm_upd (pm_upd (pm_ct K 148) t ((rs - p : Nat) : Int)) (t + 1) (p : Int)) rfl rfl
            refine m_iastore (u := [(147, pm_upd (pm_ct K 147) k (-1)), (145, pm_upd (pm_ct K 145) k 1), (146, pm_upd (pm_ct K 146) k (p : Int)), (148, pm_upd (pm_ct K 148) t ((rs - p : Nat) : Int)), (149, pm_upd (pm_ct K 149) t (cs : Int)), (150, pm_upd (pm_ct K 150) t (k : Int))]) (u' := [(147, pm_upd (pm_ct K 147) k (-1)), (145, pm_upd (pm_ct K 145) k 1), (146, pm_upd (pm_ct K 146) k (p : Int)), (148, pm_upd (pm_upd (pm_ct K 148) t ((rs - p : Nat) : Int)) (t + 1) (p : Int)), (149, pm_upd (pm_ct K 149) t (cs : Int)), (150, pm_upd (pm_ct K 150) t (k : Int))]) (M := K) lk_244_303 (lay10.ay (by decide) rfl) (by omega) (j := (t + 1)) (by omega) rfl ?_
            refine g_aload_n lk_244_304 rfl ?_
            refine g_getfield lk_244_305 rfl (lay11.on (by decide) rfl) (v := ((149 : Nat) : Int)) (lay11.rf rfl) ?_
            refine g_iload_n lk_244_308 rfl ?_
            refine g_iconst lk_244_309 ?_
            refine g_iadd lk_244_310 ?_
            refine g_iload lk_244_311 rfl ?_
            refine g_if (t := 321) lk_244_313 rfl (by first | (unfold pm_inI; omega) | exact pm_and_in _ _ | exact pm_shr_in _ _ | exact pm_or_in _ _ | exact pm_xor_in _ _ | exact pm_shl_in _ _ | exact pm_cmp_in _ _ | exact pm_b8_in _ | (unfold pm_inI; split <;> omega)) (fun h => absurd h (show ¬ ((1 : Int) = (0 : Int)) by omega)) (fun _ => ?_)
            refine g_iload lk_244_316 rfl ?_
            refine g_goto (t := 323) lk_244_318 rfl ?_
            have lay12 : Lay (Mu [(147, pm_upd (pm_ct K 147) k (-1)), (145, pm_upd (pm_ct K 145) k 1), (146, pm_upd (pm_ct K 146) k (p : Int)), (148, pm_upd (pm_upd (pm_ct K 148) t ((rs - p : Nat) : Int)) (t + 1) (p : Int)), (149, pm_upd (pm_upd (pm_ct K 149) t (cs : Int)) (t + 1) (cs : Int)), (150, pm_upd (pm_ct K 150) t (k : Int))] K) := lay11.muA (l := [(147, pm_upd (pm_ct K 147) k (-1)), (145, pm_upd (pm_ct K 145) k 1), (146, pm_upd (pm_ct K 146) k (p : Int)), (148, pm_upd (pm_upd (pm_ct K 148) t ((rs - p : Nat) : Int)) (t + 1) (p : Int)), (149, pm_upd (pm_ct K 149) t (cs : Int)), (150, pm_upd (pm_ct K 150) t (k : Int))]) (a := 149) (f := pm_upd (pm_upd (pm_ct K 149) t (cs : Int)) (t + 1) (cs : Int)) rfl rfl
            refine m_iastore (u := [(147, pm_upd (pm_ct K 147) k (-1)), (145, pm_upd (pm_ct K 145) k 1), (146, pm_upd (pm_ct K 146) k (p : Int)), (148, pm_upd (pm_upd (pm_ct K 148) t ((rs - p : Nat) : Int)) (t + 1) (p : Int)), (149, pm_upd (pm_ct K 149) t (cs : Int)), (150, pm_upd (pm_ct K 150) t (k : Int))]) (u' := [(147, pm_upd (pm_ct K 147) k (-1)), (145, pm_upd (pm_ct K 145) k 1), (146, pm_upd (pm_ct K 146) k (p : Int)), (148, pm_upd (pm_upd (pm_ct K 148) t ((rs - p : Nat) : Int)) (t + 1) (p : Int)), (149, pm_upd (pm_upd (pm_ct K 149) t (cs : Int)) (t + 1) (cs : Int)), (150, pm_upd (pm_ct K 150) t (k : Int))]) (M := K) lk_244_323 (lay11.ay (by decide) rfl) (by omega) (j := (t + 1)) (by omega) rfl ?_
            refine g_aload_n lk_244_324 rfl ?_
            refine g_getfield lk_244_325 rfl (lay12.on (by decide) rfl) (v := ((150 : Nat) : Int)) (lay12.rf rfl) ?_
            refine g_iload_n lk_244_328 rfl ?_
            refine g_iconst lk_244_329 ?_
            refine g_iadd lk_244_330 ?_
            refine g_iconst lk_244_331 ?_
            have lay13 : Lay (Mu [(147, pm_upd (pm_ct K 147) k (-1)), (145, pm_upd (pm_ct K 145) k 1), (146, pm_upd (pm_ct K 146) k (p : Int)), (148, pm_upd (pm_upd (pm_ct K 148) t ((rs - p : Nat) : Int)) (t + 1) (p : Int)), (149, pm_upd (pm_upd (pm_ct K 149) t (cs : Int)) (t + 1) (cs : Int)), (150, pm_upd (pm_upd (pm_ct K 150) t (k : Int)) (t + 1) (-1))] K) := lay12.muA (l := [(147, pm_upd (pm_ct K 147) k (-1)), (145, pm_upd (pm_ct K 145) k 1), (146, pm_upd (pm_ct K 146) k (p : Int)), (148, pm_upd (pm_upd (pm_ct K 148) t ((rs - p : Nat) : Int)) (t + 1) (p : Int)), (149, pm_upd (pm_upd (pm_ct K 149) t (cs : Int)) (t + 1) (cs : Int)), (150, pm_upd (pm_ct K 150) t (k : Int))]) (a := 150) (f := pm_upd (pm_upd (pm_ct K 150) t (k : Int)) (t + 1) (-1)) rfl rfl
            refine m_iastore (u := [(147, pm_upd (pm_ct K 147) k (-1)), (145, pm_upd (pm_ct K 145) k 1), (146, pm_upd (pm_ct K 146) k (p : Int)), (148, pm_upd (pm_upd (pm_ct K 148) t ((rs - p : Nat) : Int)) (t + 1) (p : Int)), (149, pm_upd (pm_upd (pm_ct K 149) t (cs : Int)) (t + 1) (cs : Int)), (150, pm_upd (pm_ct K 150) t (k : Int))]) (u' := [(147, pm_upd (pm_ct K 147) k (-1)), (145, pm_upd (pm_ct K 145) k 1), (146, pm_upd (pm_ct K 146) k (p : Int)), (148, pm_upd (pm_upd (pm_ct K 148) t ((rs - p : Nat) : Int)) (t + 1) (p : Int)), (149, pm_upd (pm_upd (pm_ct K 149) t (cs : Int)) (t + 1) (cs : Int)), (150, pm_upd (pm_upd (pm_ct K 150) t (k : Int)) (t + 1) (-1))]) (M := K) lk_244_332 (lay12.ay (by decide) rfl) (by omega) (j := (t + 1)) (by omega) rfl ?_
            refine g_iinc (ls' := [(2, ((116 : Nat) : Int)), (0, (h : Int)), (0, ((t : Int) + 2)), (0, (rs : Int)), (0, (cs : Int)), (0, (k : Int)), (0, (p : Int)), (0, 1)]) lk_244_333 rfl rfl rfl ?_
            refine g_loc (ls := [(2, ((116 : Nat) : Int)), (0, (h : Int)), (0, ((t : Int) + 2)), (0, (rs : Int)), (0, (cs : Int)), (0, (k : Int)), (0, (p : Int)), (0, 1)]) (ls' := [(2, ((116 : Nat) : Int)), (0, (h : Int)), (0, ((t + 1 + 1 : Nat) : Int)), (0, (rs : Int)), (0, (cs : Int)), (0, (k : Int)), (0, (p : Int)), (0, 1)]) (by rw [show ((t : Int) + 2) = ((t + 1 + 1 : Nat) : Int) from ((by omega))]) ?_
            refine g_goto (t := 38) lk_244_336 rfl ?_
            refine two _ 1 p p cs (rs - p) cs _ _ _ _ _ lay13 (mus _ _ rfl mfK) (bK.trans (fun j hj => ⟨?_, ?_, ?_⟩)) (by rw [Mu_ct]; exact b56) (hNK.push (x := 1) lenL.symm (by rw [Mu_ct]; rfl) (by rw [Mu_ct]; rfl) (by rw [Mu_ct]; rfl)) ?_ ?_ ?_ ?_ ?_ ?_ in1 in2 (by omega) (by omega) eg
            · rw [Mu_ct]; show pm_upd (pm_upd (pm_ct K 148) t _) (t + 1) _ j = pm_ct K 148 j; rw [pm_upd_ne (by omega), pm_upd_ne (by omega)]
            · rw [Mu_ct]; show pm_upd (pm_upd (pm_ct K 149) t _) (t + 1) _ j = pm_ct K 149 j; rw [pm_upd_ne (by omega), pm_upd_ne (by omega)]
            · rw [Mu_ct]; show pm_upd (pm_upd (pm_ct K 150) t _) (t + 1) _ j = pm_ct K 150 j; rw [pm_upd_ne (by omega), pm_upd_ne (by omega)]
            · rw [Mu_ct]; show pm_upd (pm_upd (pm_ct K 148) t _) (t + 1) _ t = _; rw [pm_upd_ne (by omega), pm_upd_eq]
            · rw [Mu_ct]; show pm_upd (pm_upd (pm_ct K 149) t _) (t + 1) _ t = _; rw [pm_upd_ne (by omega), pm_upd_eq]
            · rw [Mu_ct]; show pm_upd (pm_upd (pm_ct K 150) t _) (t + 1) _ t = _; rw [pm_upd_ne (by omega), pm_upd_eq]
            · rw [Mu_ct]; show pm_upd (pm_upd (pm_ct K 148) t _) (t + 1) _ (t + 1) = _; rw [pm_upd_eq]
            · rw [Mu_ct]; show pm_upd (pm_upd (pm_ct K 149) t _) (t + 1) _ (t + 1) = _; rw [pm_upd_eq]
            · rw [Mu_ct]; show pm_upd (pm_upd (pm_ct K 150) t _) (t + 1) _ (t + 1) = _; rw [pm_upd_eq]
      · have eg := gt_B (T := T) (h := h) (n := n) (rs := rs) (cs := cs) (k := k) hal hw
        obtain ⟨x1, x2, -, -⟩ := pk_is (pick_B hT hi hal hw)
        have sf0 := sfA_no hT hi hal hw
        have sf := sfB_yes hT hi hal hw
        obtain ⟨p, hp'⟩ : ∃ p, p = pB' T h rs cs := ⟨_, rfl⟩
        replace x1 : p < cs := by rw [hp']; exact x1
        replace x2 : spC cs p = true := by rw [hp']; exact x2
        rw [← hp'] at eg sf
        obtain ⟨y1, y2, -, -, y5, y6, y7⟩ := spC_s c64 (by have := hi.2.2.1; omega) x1 x2
        have in1 : inT T rs p := ⟨hi.1, hi.2.1, y1, by have := hi.2.2.2; omega⟩
        have in2 : inT T rs (cs - p) := ⟨hi.1, hi.2.1, y2, by have := hi.2.2.2; omega⟩
        obtain ⟨-, -, t3⟩ := part_tab ⟨cs, c64⟩ ⟨p, by omega⟩
        replace t3 : pm_and (cs : Int) (pm_xor (p : Int) (-1)) = ((cs - p : Nat) : Int) := t3 (spC_sub x2)
        have sfr0 : ∀ (P : pm_M), Lay P → MF [145, 146, 147, 148, 149, 150] [56] M P → pm_E (d + 4) 243 [(2, ((116 : Nat) : Int)), (0, (h : Int)), (0, 1), (0, (rs : Int)), (0, (cs : Int))] P 0 0 (fun ρ M' => ρ = some (0, 0) ∧ M' = P) := fun P l m => by
          have := c_Mo_setFor1 (d := d + 1) (mc := 0) (ms := 0) l hT (moF m) (ldF m) hh hi
          rw [sf0] at this
          exact this
        have sfr : ∀ (P : pm_M), Lay P → MF [145, 146, 147, 148, 149, 150] [56] M P → pm_E (d + 4) 243 [(2, ((116 : Nat) : Int)), (0, (h : Int)), (0, 2), (0, (rs : Int)), (0, (cs : Int))] P 0 0 (fun ρ M' => ρ = some (0, (p : Int)) ∧ M' = P) := fun P l m => by
          have := c_Mo_setFor2 (d := d + 1) (mc := 0) (ms := 0) l hT (moF m) (ldF m) hh hi
          rw [sf] at this
          exact this
        refine g_aload_n lk_244_98 rfl ?_
        refine g_getfield lk_244_99 rfl (layK.on (by decide) rfl) (v := ((147 : Nat) : Int)) (layK.rf rfl) ?_
        refine g_iload lk_244_102 rfl ?_
        refine g_iconst lk_244_104 ?_
        have lay1 : Lay (Mu [(147, pm_upd (pm_ct K 147) k (-1))] K) := layK.muA (l := []) (a := 147) (f := pm_upd (pm_ct K 147) k (-1)) rfl rfl
        refine m_iastore (u := []) (u' := [(147, pm_upd (pm_ct K 147) k (-1))]) (M := K) lk_244_105 (layK.ay (by decide) rfl) (by omega) (j := k) (by omega) rfl ?_
        refine g_aload_n lk_244_106 rfl ?_
        refine g_iload_n lk_244_107 rfl ?_
        refine g_iload lk_244_108 rfl ?_
        refine g_virtual (p := 116) (Qc := _) lk_244_110 rfl (Nat.le_of_ble_eq_true rfl) rfl rfl (lay1.on (by decide) rfl) (Nat.le_of_ble_eq_true rfl) (Nat.le_of_ble_eq_true rfl) (Nat.zero_le _) (Nat.zero_le _) (ia _ lay1 (moF (mus _ _ rfl mfK)) _) ?_
        rintro _ N2 ⟨rfl, hN2⟩
        rw [hN2]
        show Wp _ 244 113 [(2, ((116 : Nat) : Int)), (0, (h : Int)), (0, (t : Int)), (0, (rs : Int)), (0, (cs : Int)), (0, (k : Int)), v6, v7] [(0, 0)] (Mu [(147, pm_upd (pm_ct K 147) k (-1))] K) _ _ _
        refine g_if (t := 157) lk_244_113 rfl (by first | (unfold pm_inI; omega) | exact pm_and_in _ _ | exact pm_shr_in _ _ | exact pm_or_in _ _ | exact pm_xor_in _ _ | exact pm_shl_in _ _ | exact pm_cmp_in _ _ | exact pm_b8_in _ | (unfold pm_inI; split <;> omega)) (fun _ => ?_) (fun h => absurd (show (0 : Int) = (0 : Int) by omega) h)
        refine g_aload_n lk_244_157 rfl ?_
        refine g_iload_n lk_244_158 rfl ?_
        refine g_iconst lk_244_159 ?_
        refine g_iload_n lk_244_160 rfl ?_
        refine g_iload lk_244_161 rfl ?_
        refine g_virtual (p := 116) (Qc := _) lk_244_163 rfl (Nat.le_of_ble_eq_true rfl) rfl rfl (lay1.on (by decide) rfl) (Nat.le_of_ble_eq_true rfl) (Nat.le_of_ble_eq_true rfl) (Nat.zero_le _) (Nat.zero_le _) (sfr0 _ lay1 (mus _ _ rfl mfK)) ?_
        rintro _ N3 ⟨rfl, hN3⟩
        rw [hN3]
        show Wp _ 244 166 [(2, ((116 : Nat) : Int)), (0, (h : Int)), (0, (t : Int)), (0, (rs : Int)), (0, (cs : Int)), (0, (k : Int)), v6, v7] [(0, 0)] (Mu [(147, pm_upd (pm_ct K 147) k (-1))] K) _ _ _
        refine g_istore (ls' := [(2, ((116 : Nat) : Int)), (0, (h : Int)), (0, (t : Int)), (0, (rs : Int)), (0, (cs : Int)), (0, (k : Int)), (0, 0), v7]) lk_244_166 rfl rfl ?_
        refine g_aload_n lk_244_168 rfl ?_
        refine g_getfield lk_244_169 rfl (lay1.on (by decide) rfl) (v := ((145 : Nat) : Int)) (lay1.rf rfl) ?_
        refine g_iload lk_244_172 rfl ?_
        refine g_iload lk_244_174 rfl ?_
        refine g_if (t := 183) lk_244_176 rfl (by first | (unfold pm_inI; omega) | exact pm_and_in _ _ | exact pm_shr_in _ _ | exact pm_or_in _ _ | exact pm_xor_in _ _ | exact pm_shl_in _ _ | exact pm_cmp_in _ _ | exact pm_b8_in _ | (unfold pm_inI; split <;> omega)) (fun _ => ?_) (fun h => absurd (show (0 : Int) ≤ (0 : Int) by omega) h)
        refine g_iconst lk_244_183 ?_
        have lay4 : Lay (Mu [(147, pm_upd (pm_ct K 147) k (-1)), (145, pm_upd (pm_ct K 145) k 2)] K) := lay1.muA (l := [(147, pm_upd (pm_ct K 147) k (-1))]) (a := 145) (f := pm_upd (pm_ct K 145) k 2) rfl rfl
        refine m_iastore (u := [(147, pm_upd (pm_ct K 147) k (-1))]) (u' := [(147, pm_upd (pm_ct K 147) k (-1)), (145, pm_upd (pm_ct K 145) k 2)]) (M := K) lk_244_184 (lay1.ay (by decide) rfl) (by omega) (j := k) (by omega) rfl ?_
        refine g_iload lk_244_185 rfl ?_
        refine g_if (t := 195) lk_244_187 rfl (by first | (unfold pm_inI; omega) | exact pm_and_in _ _ | exact pm_shr_in _ _ | exact pm_or_in _ _ | exact pm_xor_in _ _ | exact pm_shl_in _ _ | exact pm_cmp_in _ _ | exact pm_b8_in _ | (unfold pm_inI; split <;> omega)) (fun _ => ?_) (fun h => absurd (show (0 : Int) ≤ (0 : Int) by omega) h)
        refine g_aload_n lk_244_195 rfl ?_
        refine g_iload_n lk_244_196 rfl ?_
        refine g_iconst lk_244_197 ?_
        refine g_iload_n lk_244_198 rfl ?_
        refine g_iload lk_244_199 rfl ?_
        refine g_virtual (p := 116) (Qc := _) lk_244_201 rfl (Nat.le_of_ble_eq_true rfl) rfl rfl (lay4.on (by decide) rfl) (Nat.le_of_ble_eq_true rfl) (Nat.le_of_ble_eq_true rfl) (Nat.zero_le _) (Nat.zero_le _) (sfr _ lay4 (mus _ _ rfl mfK)) ?_
        rintro _ N5 ⟨rfl, hN5⟩
        rw [hN5]
        show Wp _ 244 204 [(2, ((116 : Nat) : Int)), (0, (h : Int)), (0, (t : Int)), (0, (rs : Int)), (0, (cs : Int)), (0, (k : Int)), (0, 0), v7] [(0, (p : Int))] (Mu [(147, pm_upd (pm_ct K 147) k (-1)), (145, pm_upd (pm_ct K 145) k 2)] K) _ _ _
        refine g_istore (ls' := [(2, ((116 : Nat) : Int)), (0, (h : Int)), (0, (t : Int)), (0, (rs : Int)), (0, (cs : Int)), (0, (k : Int)), (0, (p : Int)), v7]) lk_244_204 rfl rfl ?_
        refine g_aload_n lk_244_206 rfl ?_
        refine g_getfield lk_244_207 rfl (lay4.on (by decide) rfl) (v := ((146 : Nat) : Int)) (lay4.rf rfl) ?_
        refine g_iload lk_244_210 rfl ?_
        refine g_iload lk_244_212 rfl ?_
        have lay6 : Lay (Mu [(147, pm_upd (pm_ct K 147) k (-1)), (145, pm_upd (pm_ct K 145) k 2), (146, pm_upd (pm_ct K 146) k (p : Int))] K) := lay4.muA (l := [(147, pm_upd (pm_ct K 147) k (-1)), (145, pm_upd (pm_ct K 145) k 2)]) (a := 146) (f := pm_upd (pm_ct K 146) k (p : Int)) rfl rfl
        refine m_iastore (u := [(147, pm_upd (pm_ct K 147) k (-1)), (145, pm_upd (pm_ct K 145) k 2)]) (u' := [(147, pm_upd (pm_ct K 147) k (-1)), (145, pm_upd (pm_ct K 145) k 2), (146, pm_upd (pm_ct K 146) k (p : Int))]) (M := K) lk_244_214 (lay4.ay (by decide) rfl) (by omega) (j := k) (by omega) rfl ?_
        refine g_aload_n lk_244_215 rfl ?_
        refine g_getfield lk_244_216 rfl (lay6.on (by decide) rfl) (v := ((145 : Nat) : Int)) (lay6.rf rfl) ?_
        refine g_iload lk_244_219 rfl ?_
        refine m_iaload (u := [(147, pm_upd (pm_ct K 147) k (-1)), (145, pm_upd (pm_ct K 145) k 2), (146, pm_upd (pm_ct K 146) k (p : Int))]) (M := K) lk_244_221 (lay6.ay (by decide) rfl) (by omega) (j := k) (by omega) (v := 2) (by first | rfl | exact pm_upd_eq _ _ _) ?_
        refine g_iconst lk_244_222 ?_
        refine g_icmp (t := 230) lk_244_223 rfl (by first | (unfold pm_inI; omega) | exact pm_and_in _ _ | exact pm_shr_in _ _ | exact pm_or_in _ _ | exact pm_xor_in _ _ | exact pm_shl_in _ _ | exact pm_cmp_in _ _ | exact pm_b8_in _ | (unfold pm_inI; split <;> omega)) (by first | (unfold pm_inI; omega) | exact pm_and_in _ _ | exact pm_shr_in _ _ | exact pm_or_in _ _ | exact pm_xor_in _ _ | exact pm_shl_in _ _ | exact pm_cmp_in _ _ | exact pm_b8_in _ | (unfold pm_inI; split <;> omega)) (fun _ => ?_) (fun h => absurd (show ¬ (2 : Int) = (1 : Int) by omega) h)
        refine g_iconst lk_244_230 ?_
        refine g_istore (ls' := [(2, ((116 : Nat) : Int)), (0, (h : Int)), (0, (t : Int)), (0, (rs : Int)), (0, (cs : Int)), (0, (k : Int)), (0, (p : Int)), (0, 0)]) lk_244_231 rfl rfl ?_
        refine g_aload_n lk_244_233 rfl ?_
        refine g_getfield lk_244_234 rfl (lay6.on (by decide) rfl) (v := ((148 : Nat) : Int)) (lay6.rf rfl) ?_
        refine g_iload_n lk_244_237 rfl ?_
        refine g_iload lk_244_238 rfl ?_
        refine g_if (t := 252) lk_244_240 rfl (by first | (unfold pm_inI; omega) | exact pm_and_in _ _ | exact pm_shr_in _ _ | exact pm_or_in _ _ | exact pm_xor_in _ _ | exact pm_shl_in _ _ | exact pm_cmp_in _ _ | exact pm_b8_in _ | (unfold pm_inI; split <;> omega)) (fun _ => ?_) (fun h => absurd (show (0 : Int) = (0 : Int) by omega) h)
        refine g_iload_n lk_244_252 rfl ?_
        have lay7 : Lay (Mu [(147, pm_upd (pm_ct K 147) k (-1)), (145, pm_upd (pm_ct K 145) k 2), (146, pm_upd (pm_ct K 146) k (p : Int)), (148, pm_upd (pm_ct K 148) t (rs : Int))] K) := lay6.muA (l := [(147, pm_upd (pm_ct K 147) k (-1)), (145, pm_upd (pm_ct K 145) k 2), (146, pm_upd (pm_ct K 146) k (p : Int))]) (a := 148) (f := pm_upd (pm_ct K 148) t (rs : Int)) rfl rfl
        refine m_iastore (u := [(147, pm_upd (pm_ct K 147) k (-1)), (145, pm_upd (pm_ct K 145) k 2), (146, pm_upd (pm_ct K 146) k (p : Int))]) (u' := [(147, pm_upd (pm_ct K 147) k (-1)), (145, pm_upd (pm_ct K 145) k 2), (146, pm_upd (pm_ct K 146) k (p : Int)), (148, pm_upd (pm_ct K 148) t (rs : Int))]) (M := K) lk_244_253 (lay6.ay (by decide) rfl) (by omega) (j := t) (by omega) rfl ?_
        refine g_aload_n lk_244_254 rfl ?_
        refine g_getfield lk_244_255 rfl (lay7.on (by decide) rfl) (v := ((149 : Nat) : Int)) (lay7.rf rfl) ?_
        refine g_iload_n lk_244_258 rfl ?_
        refine g_iload lk_244_259 rfl ?_
        refine g_if (t := 269) lk_244_261 rfl (by first | (unfold pm_inI; omega) | exact pm_and_in _ _ | exact pm_shr_in _ _ | exact pm_or_in _ _ | exact pm_xor_in _ _ | exact pm_shl_in _ _ | exact pm_cmp_in _ _ | exact pm_b8_in _ | (unfold pm_inI; split <;> omega)) (fun _ => ?_) (fun h => absurd (show (0 : Int) = (0 : Int) by omega) h)
        refine g_iload lk_244_269 rfl ?_
        refine g_iload lk_244_271 rfl ?_
        refine g_iconst lk_244_273 ?_
        refine g_ixor lk_244_274 ?_
        refine g_iand lk_244_275 ?_
        refine g_top (z := (pm_and (cs : Int) (pm_xor (p : Int) (-1)))) (z' := ((cs - p : Nat) : Int)) (t3) ?_
        have lay8 : Lay (Mu [(147, pm_upd (pm_ct K 147) k (-1)), (145, pm_upd (pm_ct K 145) k 2), (146, pm_upd (pm_ct K 146) k (p : Int)), (148, pm_upd (pm_ct K 148) t (rs : Int)), (149, pm_upd (pm_ct K 149) t ((cs - p : Nat) : Int))] K) := lay7.muA (l := [(147, pm_upd (pm_ct K 147) k (-1)), (145, pm_upd (pm_ct K 145) k 2), (146, pm_upd (pm_ct K 146) k (p : Int)), (148, pm_upd (pm_ct K 148) t (rs : Int))]) (a := 149) (f := pm_upd (pm_ct K 149) t ((cs - p : Nat) : Int)) rfl rfl
        refine m_iastore (u := [(147, pm_upd (pm_ct K 147) k (-1)), (145, pm_upd (pm_ct K 145) k 2), (146, pm_upd (pm_ct K 146) k (p : Int)), (148, pm_upd (pm_ct K 148) t (rs : Int))]) (u' := [(147, pm_upd (pm_ct K 147) k (-1)), (145, pm_upd (pm_ct K 145) k 2), (146, pm_upd (pm_ct K 146) k (p : Int)), (148, pm_upd (pm_ct K 148) t (rs : Int)), (149, pm_upd (pm_ct K 149) t ((cs - p : Nat) : Int))]) (M := K) lk_244_276 (lay7.ay (by decide) rfl) (by omega) (j := t) (by omega) rfl ?_
        refine g_aload_n lk_244_277 rfl ?_
        refine g_getfield lk_244_278 rfl (lay8.on (by decide) rfl) (v := ((150 : Nat) : Int)) (lay8.rf rfl) ?_
        refine g_iload_n lk_244_281 rfl ?_
        refine g_iload lk_244_282 rfl ?_
        have lay9 : Lay (Mu [(147, pm_upd (pm_ct K 147) k (-1)), (145, pm_upd (pm_ct K 145) k 2), (146, pm_upd (pm_ct K 146) k (p : Int)), (148, pm_upd (pm_ct K 148) t (rs : Int)), (149, pm_upd (pm_ct K 149) t ((cs - p : Nat) : Int)), (150, pm_upd (pm_ct K 150) t (k : Int))] K) := lay8.muA (l := [(147, pm_upd (pm_ct K 147) k (-1)), (145, pm_upd (pm_ct K 145) k 2), (146, pm_upd (pm_ct K 146) k (p : Int)), (148, pm_upd (pm_ct K 148) t (rs : Int)), (149, pm_upd (pm_ct K 149) t ((cs - p : Nat) : Int))]) (a := 150) (f := pm_upd (pm_ct K 150) t (k : Int)) rfl rfl
        refine m_iastore (u := [(147, pm_upd (pm_ct K 147) k (-1)), (145, pm_upd (pm_ct K 145) k 2), (146, pm_upd (pm_ct K 146) k (p : Int)), (148, pm_upd (pm_ct K 148) t (rs : Int)), (149, pm_upd (pm_ct K 149) t ((cs - p : Nat) : Int))]) (u' := [(147, pm_upd (pm_ct K 147) k (-1)), (145, pm_upd (pm_ct K 145) k 2), (146, pm_upd (pm_ct K 146) k (p : Int)), (148, pm_upd (pm_ct K 148) t (rs : Int)), (149, pm_upd (pm_ct K 149) t ((cs - p : Nat) : Int)), (150, pm_upd (pm_ct K 150) t (k : Int))]) (M := K) lk_244_284 (lay8.ay (by decide) rfl) (by omega) (j := t) (by omega) rfl ?_
        refine g_aload_n lk_244_285 rfl ?_
        refine g_getfield lk_244_286 rfl (lay9.on (by decide) rfl) (v := ((148 : Nat) : Int)) (lay9.rf rfl) ?_
        refine g_iload_n lk_244_289 rfl ?_
        refine g_iconst lk_244_290 ?_
        refine g_iadd lk_244_291 ?_
        refine g_iload lk_244_292 rfl ?_
        refine g_if (t := 302) lk_244_294 rfl (by first | (unfold pm_inI; omega) | exact pm_and_in _ _ | exact pm_shr_in _ _ | exact pm_or_in _ _ | exact pm_xor_in _ _ | exact pm_shl_in _ _ | exact pm_cmp_in _ _ | exact pm_b8_in _ | (unfold pm_inI; split <;> omega)) (fun _ => ?_) (fun h => absurd (show (0 : Int) = (0 : Int) by omega) h)
        refine g_iload_n lk_244_302 rfl ?_
        have lay10 : Lay (Mu [(147, pm_upd (pm_ct K 147) k (-1)), (145, pm_upd (pm_ct K 145) k 2), (146, pm_upd (pm_ct K 146) k (p : Int)), (148, pm_upd (pm_upd (pm_ct K 148) t (rs : Int)) (t + 1) (rs : Int)), (149, pm_upd (pm_ct K 149) t ((cs - p : Nat) : Int)), (150, pm_upd (pm_ct K 150) t (k : Int))] K) := lay9.muA (l := [(147, pm_upd (pm_ct K 147) k (-1)), (145, pm_upd (pm_ct K 145) k 2), (146, pm_upd (pm_ct K 146) k (p : Int)), (148, pm_upd (pm_ct K 148) t (rs : Int)), (149, pm_upd (pm_ct K 149) t ((cs - p : Nat) : Int)), (150, pm_upd (pm_ct K 150) t (k : Int))]) (a := 148) (f := pm_upd (pm_upd (pm_ct K 148) t (rs : Int)) (t + 1) (rs : Int)) rfl rfl
        refine m_iastore (u := [(147, pm_upd (pm_ct K 147) k (-1)), (145, pm_upd (pm_ct K 145) k 2), (146, pm_upd (pm_ct K 146) k (p : Int)), (148, pm_upd (pm_ct K 148) t (rs : Int)), (149, pm_upd (pm_ct K 149) t ((cs - p : Nat) : Int)), (150, pm_upd (pm_ct K 150) t (k : Int))]) (u' := [(147, pm_upd (pm_ct K 147) k (-1)), (145, pm_upd (pm_ct K 145) k 2), (146, pm_upd (pm_ct K 146) k (p : Int)), (148, pm_upd (pm_upd (pm_ct K 148) t (rs : Int)) (t + 1) (rs : Int)), (149, pm_upd (pm_ct K 149) t ((cs - p : Nat) : Int)), (150, pm_upd (pm_ct K 150) t (k : Int))]) (M := K) lk_244_303 (lay9.ay (by decide) rfl) (by omega) (j := (t + 1)) (by omega) rfl ?_
        refine g_aload_n lk_244_304 rfl ?_
        refine g_getfield lk_244_305 rfl (lay10.on (by decide) rfl) (v := ((149 : Nat) : Int)) (lay10.rf rfl) ?_
        refine g_iload_n lk_244_308 rfl ?_
        refine g_iconst lk_244_309 ?_
        refine g_iadd lk_244_310 ?_
        refine g_iload lk_244_311 rfl ?_
        refine g_if (t := 321) lk_244_313 rfl (by first | (unfold pm_inI; omega) | exact pm_and_in _ _ | exact pm_shr_in _ _ | exact pm_or_in _ _ | exact pm_xor_in _ _ | exact pm_shl_in _ _ | exact pm_cmp_in _ _ | exact pm_b8_in _ | (unfold pm_inI; split <;> omega)) (fun _ => ?_) (fun h => absurd (show (0 : Int) = (0 : Int) by omega) h)
        refine g_iload lk_244_321 rfl ?_
        have lay11 : Lay (Mu [(147, pm_upd (pm_ct K 147) k (-1)), (145, pm_upd (pm_ct K 145) k 2), (146, pm_upd (pm_ct K 146) k (p : Int)), (148, pm_upd (pm_upd (pm_ct K 148) t (rs : Int)) (t + 1) (rs : Int)), (149, pm_upd (pm_upd (pm_ct K 149) t ((cs - p : Nat) : Int)) (t + 1) (p : Int)), (150, pm_upd (pm_ct K 150) t (k : Int))] K) := lay10.muA (l := [(147, pm_upd (pm_ct K 147) k (-1)), (145, pm_upd (pm_ct K 145) k 2), (146, pm_upd (pm_ct K 146) k (p : Int)), (148, pm_upd (pm_upd (pm_ct K 148) t (rs : Int)) (t + 1) (rs : Int)), (149, pm_upd (pm_ct K 149) t ((cs - p : Nat) : Int)), (150, pm_upd (pm_ct K 150) t (k : Int))]) (a := 149) (f := pm_upd (pm_upd (pm_ct K 149) t ((cs - p : Nat) : Int)) (t + 1) (p : Int)) rfl rfl
        refine m_iastore (u := [(147, pm_upd (pm_ct K 147) k (-1)), (145, pm_upd (pm_ct K 145) k 2), (146, pm_upd (pm_ct K 146) k (p : Int)), (148, pm_upd (pm_upd (pm_ct K 148) t (rs : Int)) (t + 1) (rs : Int)), (149, pm_upd (pm_ct K 149) t ((cs - p : Nat) : Int)), (150, pm_upd (pm_ct K 150) t (k : Int))]) (u' := [(147, pm_upd (pm_ct K 147) k (-1)), (145, pm_upd (pm_ct K 145) k 2), (146, pm_upd (pm_ct K 146) k (p : Int)), (148, pm_upd (pm_upd (pm_ct K 148) t (rs : Int)) (t + 1) (rs : Int)), (149, pm_upd (pm_upd (pm_ct K 149) t ((cs - p : Nat) : Int)) (t + 1) (p : Int)), (150, pm_upd (pm_ct K 150) t (k : Int))]) (M := K) lk_244_323 (lay10.ay (by decide) rfl) (by omega) (j := (t + 1)) (by omega) rfl ?_
        refine g_aload_n lk_244_324 rfl ?_
        refine g_getfield lk_244_325 rfl (lay11.on (by decide) rfl) (v := ((150 : Nat) : Int)) (lay11.rf rfl) ?_
        refine g_iload_n lk_244_328 rfl ?_
        refine g_iconst lk_244_329 ?_
        refine g_iadd lk_244_330 ?_
        refine g_iconst lk_244_331 ?_
        have lay12 : Lay (Mu [(147, pm_upd (pm_ct K 147) k (-1)), (145, pm_upd (pm_ct K 145) k 2), (146, pm_upd (pm_ct K 146) k (p : Int)), (148, pm_upd (pm_upd (pm_ct K 148) t (rs : Int)) (t + 1) (rs : Int)), (149, pm_upd (pm_upd (pm_ct K 149) t ((cs - p : Nat) : Int)) (t + 1) (p : Int)), (150, pm_upd (pm_upd (pm_ct K 150) t (k : Int)) (t + 1) (-1))] K) := lay11.muA (l := [(147, pm_upd (pm_ct K 147) k (-1)), (145, pm_upd (pm_ct K 145) k 2), (146, pm_upd (pm_ct K 146) k (p : Int)), (148, pm_upd (pm_upd (pm_ct K 148) t (rs : Int)) (t + 1) (rs : Int)), (149, pm_upd (pm_upd (pm_ct K 149) t ((cs - p : Nat) : Int)) (t + 1) (p : Int)), (150, pm_upd (pm_ct K 150) t (k : Int))]) (a := 150) (f := pm_upd (pm_upd (pm_ct K 150) t (k : Int)) (t + 1) (-1)) rfl rfl
        refine m_iastore (u := [(147, pm_upd (pm_ct K 147) k (-1)), (145, pm_upd (pm_ct K 145) k 2), (146, pm_upd (pm_ct K 146) k (p : Int)), (148, pm_upd (pm_upd (pm_ct K 148) t (rs : Int)) (t + 1) (rs : Int)), (149, pm_upd (pm_upd (pm_ct K 149) t ((cs - p : Nat) : Int)) (t + 1) (p : Int)), (150, pm_upd (pm_ct K 150) t (k : Int))]) (u' := [(147, pm_upd (pm_ct K 147) k (-1)), (145, pm_upd (pm_ct K 145) k 2), (146, pm_upd (pm_ct K 146) k (p : Int)), (148, pm_upd (pm_upd (pm_ct K 148) t (rs : Int)) (t + 1) (rs : Int)), (149, pm_upd (pm_upd (pm_ct K 149) t ((cs - p : Nat) : Int)) (t + 1) (p : Int)), (150, pm_upd (pm_upd (pm_ct K 150) t (k : Int)) (t + 1) (-1))]) (M := K) lk_244_332 (lay11.ay (by decide) rfl) (by omega) (j := (t + 1)) (by omega) rfl ?_
        refine g_iinc (ls' := [(2, ((116 : Nat) : Int)), (0, (h : Int)), (0, ((t : Int) + 2)), (0, (rs : Int)), (0, (cs : Int)), (0, (k : Int)), (0, (p : Int)), (0, 0)]) lk_244_333 rfl rfl rfl ?_
        refine g_loc (ls := [(2, ((116 : Nat) : Int)), (0, (h : Int)), (0, ((t : Int) + 2)), (0, (rs : Int)), (0, (cs : Int)), (0, (k : Int)), (0, (p : Int)), (0, 0)]) (ls' := [(2, ((116 : Nat) : Int)), (0, (h : Int)), (0, ((t + 1 + 1 : Nat) : Int)), (0, (rs : Int)), (0, (cs : Int)), (0, (k : Int)), (0, (p : Int)), (0, 0)]) (by rw [show ((t : Int) + 2) = ((t + 1 + 1 : Nat) : Int) from ((by omega))]) ?_
        refine g_goto (t := 38) lk_244_336 rfl ?_
        refine two _ 2 p rs p rs (cs - p) _ _ _ _ _ lay12 (mus _ _ rfl mfK) (bK.trans (fun j hj => ⟨?_, ?_, ?_⟩)) (by rw [Mu_ct]; exact b56) (hNK.push (x := 2) lenL.symm (by rw [Mu_ct]; rfl) (by rw [Mu_ct]; rfl) (by rw [Mu_ct]; rfl)) ?_ ?_ ?_ ?_ ?_ ?_ in1 in2 (by omega) (by omega) eg
        · rw [Mu_ct]; show pm_upd (pm_upd (pm_ct K 148) t _) (t + 1) _ j = pm_ct K 148 j; rw [pm_upd_ne (by omega), pm_upd_ne (by omega)]
        · rw [Mu_ct]; show pm_upd (pm_upd (pm_ct K 149) t _) (t + 1) _ j = pm_ct K 149 j; rw [pm_upd_ne (by omega), pm_upd_ne (by omega)]
        · rw [Mu_ct]; show pm_upd (pm_upd (pm_ct K 150) t _) (t + 1) _ j = pm_ct K 150 j; rw [pm_upd_ne (by omega), pm_upd_ne (by omega)]
        · rw [Mu_ct]; show pm_upd (pm_upd (pm_ct K 148) t _) (t + 1) _ t = _; rw [pm_upd_ne (by omega), pm_upd_eq]
        · rw [Mu_ct]; show pm_upd (pm_upd (pm_ct K 149) t _) (t + 1) _ t = _; rw [pm_upd_ne (by omega), pm_upd_eq]
        · rw [Mu_ct]; show pm_upd (pm_upd (pm_ct K 150) t _) (t + 1) _ t = _; rw [pm_upd_ne (by omega), pm_upd_eq]
        · rw [Mu_ct]; show pm_upd (pm_upd (pm_ct K 148) t _) (t + 1) _ (t + 1) = _; rw [pm_upd_eq]
        · rw [Mu_ct]; show pm_upd (pm_upd (pm_ct K 149) t _) (t + 1) _ (t + 1) = _; rw [pm_upd_eq]
        · rw [Mu_ct]; show pm_upd (pm_upd (pm_ct K 150) t _) (t + 1) _ (t + 1) = _; rw [pm_upd_eq]
    have mu56 : ∀ (l : List (Nat × (Nat → Int))), (l.all (fun q => (116 :: [145, 146, 147, 148, 149, 150]).elem q.1)) = true → (∀ j, j ∉ [56] → al l 116 (pm_ct N 116) j = pm_ct N 116 j) → MF [145, 146, 147, 148, 149, 150] [56] M (Mu l N) := fun l hl h2 => mfN.trans (MF.mu _ _ hl h2)
    have i56 : ∀ z : Int, ∀ j, j ∉ [56] → pm_upd (pm_ct N 116) 56 z j = pm_ct N 116 j := fun z j hj => upd_ne (by simpa using hj)
    have lt1 : ((t + 1 : Nat) : Int) + (-1) = (t : Int) := by omega
    have ek1 : (k : Int) + 1 = ((k + 1 : Nat) : Int) := by omega
    rcases hS with ⟨ho, hL'⟩ | ⟨A, x, y, z, B, hA, hL', ho⟩
    · rw [ho] at a150
      refine g_iload_n lk_244_38 rfl ?_
      refine g_if (t := 339) lk_244_39 rfl (by first | (unfold pm_inI; omega) | exact pm_and_in _ _ | exact pm_shr_in _ _ | exact pm_or_in _ _ | exact pm_xor_in _ _ | exact pm_shl_in _ _ | exact pm_cmp_in _ _ | exact pm_b8_in _ | (unfold pm_inI; split <;> omega)) (fun h1 => ?_) (fun h1 => ?_)
      · replace h1 : ((t + 1 : Nat) : Int) ≤ 0 := h1
        omega
      · replace h1 : ¬ (((t + 1 : Nat) : Int) ≤ 0) := h1
        refine g_iinc (ls' := [(2, ((116 : Nat) : Int)), (0, (h : Int)), (0, (((t + 1 : Nat) : Int) + (-1))), v3, v4, v5, v6, v7]) lk_244_42 rfl rfl rfl ?_
        refine g_loc (ls := [(2, ((116 : Nat) : Int)), (0, (h : Int)), (0, (((t + 1 : Nat) : Int) + (-1))), v3, v4, v5, v6, v7]) (ls' := [(2, ((116 : Nat) : Int)), (0, (h : Int)), (0, (t : Int)), v3, v4, v5, v6, v7]) (by rw [show (((t + 1 : Nat) : Int) + (-1)) = (t : Int) from (lt1)]) ?_
        refine g_aload_n lk_244_45 rfl ?_
        refine g_getfield lk_244_46 rfl (layN.on (by decide) rfl) (v := ((148 : Nat) : Int)) (layN.rf rfl) ?_
        refine g_iload_n lk_244_49 rfl ?_
        refine m_iaload (u := []) (M := N) lk_244_50 (layN.ay (by decide) rfl) (by omega) (j := t) (by omega) (v := (rs : Int)) a148 ?_
        refine g_istore_n (ls' := [(2, ((116 : Nat) : Int)), (0, (h : Int)), (0, (t : Int)), (0, (rs : Int)), v4, v5, v6, v7]) lk_244_51 rfl rfl ?_
        refine g_aload_n lk_244_52 rfl ?_
        refine g_getfield lk_244_53 rfl (layN.on (by decide) rfl) (v := ((149 : Nat) : Int)) (layN.rf rfl) ?_
        refine g_iload_n lk_244_56 rfl ?_
        refine m_iaload (u := []) (M := N) lk_244_57 (layN.ay (by decide) rfl) (by omega) (j := t) (by omega) (v := (cs : Int)) a149 ?_
        refine g_istore (ls' := [(2, ((116 : Nat) : Int)), (0, (h : Int)), (0, (t : Int)), (0, (rs : Int)), (0, (cs : Int)), v5, v6, v7]) lk_244_58 rfl rfl ?_
        refine g_aload_n lk_244_60 rfl ?_
        refine m_getfield (u := []) (M := N) lk_244_61 rfl (layN.on (by decide) rfl) (v := (k : Int)) a56 ?_
        refine g_istore (ls' := [(2, ((116 : Nat) : Int)), (0, (h : Int)), (0, (t : Int)), (0, (rs : Int)), (0, (cs : Int)), (0, (k : Int)), v6, v7]) lk_244_64 rfl rfl ?_
        refine g_aload_n lk_244_66 rfl ?_
        refine g_dup lk_244_67 rfl ?_
        refine m_getfield (u := []) (M := N) lk_244_68 rfl (layN.on (by decide) rfl) (v := (k : Int)) a56 ?_
        refine g_iconst lk_244_71 ?_
        refine g_iadd lk_244_72 ?_
        have lay2 : Lay (Mu [(116, pm_upd (pm_ct N 116) 56 ((k : Int) + 1))] N) := layN.muF (l := []) (a := 116) (k := 56) (z := ((k : Int) + 1)) rfl rfl
        refine m_putfield (u := []) (u' := [(116, pm_upd (pm_ct N 116) 56 ((k : Int) + 1))]) (M := N) lk_244_73 rfl (layN.on (by decide) rfl) (fun h => absurd h (by decide)) rfl ?_
        refine g_aload_n lk_244_76 rfl ?_
        refine g_getfield lk_244_77 rfl (lay2.on (by decide) rfl) (v := ((150 : Nat) : Int)) (lay2.rf rfl) ?_
        refine g_iload_n lk_244_80 rfl ?_
        refine m_iaload (u := [(116, pm_upd (pm_ct N 116) 56 ((k : Int) + 1))]) (M := N) lk_244_81 (lay2.ay (by decide) rfl) (by omega) (j := t) (by omega) (v := -1) a150 ?_
        refine g_if (t := 98) lk_244_82 rfl (by first | (unfold pm_inI; omega) | exact pm_and_in _ _ | exact pm_shr_in _ _ | exact pm_or_in _ _ | exact pm_xor_in _ _ | exact pm_shl_in _ _ | exact pm_cmp_in _ _ | exact pm_b8_in _ | (unfold pm_inI; split <;> omega)) (fun _ => ?_) (fun h => absurd (show (-1 : Int) < (0 : Int) by omega) h)
        refine k98 _ _ _ lay2 (mu56 _ rfl (i56 _)) (fun j _ => ⟨by rw [Mu_ct]; rfl, by rw [Mu_ct]; rfl, by rw [Mu_ct]; rfl⟩) (by rw [Mu_ct]; show pm_upd (pm_ct N 116) 56 _ 56 = _; rw [pm_upd_eq]; exact ek1) ?_
        rw [hL']
        exact hNd.of (by rw [Mu_ct]; rfl) (by rw [Mu_ct]; rfl) (by rw [Mu_ct]; rfl)
    · obtain ⟨q, hq⟩ : ∃ q, q = A.length := ⟨_, rfl⟩
      rw [ho, ← hq] at a150
      have q71 : q < 71 := by
        have := congrArg List.length hA
        rw [List.length_append, List.length_append, ← hk, ← hq] at this
        omega
      refine g_iload_n lk_244_38 rfl ?_
      refine g_if (t := 339) lk_244_39 rfl (by first | (unfold pm_inI; omega) | exact pm_and_in _ _ | exact pm_shr_in _ _ | exact pm_or_in _ _ | exact pm_xor_in _ _ | exact pm_shl_in _ _ | exact pm_cmp_in _ _ | exact pm_b8_in _ | (unfold pm_inI; split <;> omega)) (fun h1 => ?_) (fun h1 => ?_)
      · replace h1 : ((t + 1 : Nat) : Int) ≤ 0 := h1
        omega
      · replace h1 : ¬ (((t + 1 : Nat) : Int) ≤ 0) := h1
        refine g_iinc (ls' := [(2, ((116 : Nat) : Int)), (0, (h : Int)), (0, (((t + 1 : Nat) : Int) + (-1))), v3, v4, v5, v6, v7]) lk_244_42 rfl rfl rfl ?_
        refine g_loc (ls := [(2, ((116 : Nat) : Int)), (0, (h : Int)), (0, (((t + 1 : Nat) : Int) + (-1))), v3, v4, v5, v6, v7]) (ls' := [(2, ((116 : Nat) : Int)), (0, (h : Int)), (0, (t : Int)), v3, v4, v5, v6, v7]) (by rw [show (((t + 1 : Nat) : Int) + (-1)) = (t : Int) from (lt1)]) ?_
        refine g_aload_n lk_244_45 rfl ?_
        refine g_getfield lk_244_46 rfl (layN.on (by decide) rfl) (v := ((148 : Nat) : Int)) (layN.rf rfl) ?_
        refine g_iload_n lk_244_49 rfl ?_
        refine m_iaload (u := []) (M := N) lk_244_50 (layN.ay (by decide) rfl) (by omega) (j := t) (by omega) (v := (rs : Int)) a148 ?_
        refine g_istore_n (ls' := [(2, ((116 : Nat) : Int)), (0, (h : Int)), (0, (t : Int)), (0, (rs : Int)), v4, v5, v6, v7]) lk_244_51 rfl rfl ?_
        refine g_aload_n lk_244_52 rfl ?_
        refine g_getfield lk_244_53 rfl (layN.on (by decide) rfl) (v := ((149 : Nat) : Int)) (layN.rf rfl) ?_
        refine g_iload_n lk_244_56 rfl ?_
        refine m_iaload (u := []) (M := N) lk_244_57 (layN.ay (by decide) rfl) (by omega) (j := t) (by omega) (v := (cs : Int)) a149 ?_
        refine g_istore (ls' := [(2, ((116 : Nat) : Int)), (0, (h : Int)), (0, (t : Int)), (0, (rs : Int)), (0, (cs : Int)), v5, v6, v7]) lk_244_58 rfl rfl ?_
        refine g_aload_n lk_244_60 rfl ?_
        refine m_getfield (u := []) (M := N) lk_244_61 rfl (layN.on (by decide) rfl) (v := (k : Int)) a56 ?_
        refine g_istore (ls' := [(2, ((116 : Nat) : Int)), (0, (h : Int)), (0, (t : Int)), (0, (rs : Int)), (0, (cs : Int)), (0, (k : Int)), v6, v7]) lk_244_64 rfl rfl ?_
        refine g_aload_n lk_244_66 rfl ?_
        refine g_dup lk_244_67 rfl ?_
        refine m_getfield (u := []) (M := N) lk_244_68 rfl (layN.on (by decide) rfl) (v := (k : Int)) a56 ?_
        refine g_iconst lk_244_71 ?_
        refine g_iadd lk_244_72 ?_
        have lay2 : Lay (Mu [(116, pm_upd (pm_ct N 116) 56 ((k : Int) + 1))] N) := layN.muF (l := []) (a := 116) (k := 56) (z := ((k : Int) + 1)) rfl rfl
        refine m_putfield (u := []) (u' := [(116, pm_upd (pm_ct N 116) 56 ((k : Int) + 1))]) (M := N) lk_244_73 rfl (layN.on (by decide) rfl) (fun h => absurd h (by decide)) rfl ?_
        refine g_aload_n lk_244_76 rfl ?_
        refine g_getfield lk_244_77 rfl (lay2.on (by decide) rfl) (v := ((150 : Nat) : Int)) (lay2.rf rfl) ?_
        refine g_iload_n lk_244_80 rfl ?_
        refine m_iaload (u := [(116, pm_upd (pm_ct N 116) 56 ((k : Int) + 1))]) (M := N) lk_244_81 (lay2.ay (by decide) rfl) (by omega) (j := t) (by omega) (v := (q : Int)) a150 ?_
        refine g_if (t := 98) lk_244_82 rfl (by first | (unfold pm_inI; omega) | exact pm_and_in _ _ | exact pm_shr_in _ _ | exact pm_or_in _ _ | exact pm_xor_in _ _ | exact pm_shl_in _ _ | exact pm_cmp_in _ _ | exact pm_b8_in _ | (unfold pm_inI; split <;> omega)) (fun h3 => ?_) (fun h3 => ?_)
        · replace h3 : (q : Int) < 0 := h3
          omega
        · replace h3 : ¬ ((q : Int) < 0) := h3
          refine g_aload_n lk_244_85 rfl ?_
          refine g_getfield lk_244_86 rfl (lay2.on (by decide) rfl) (v := ((147 : Nat) : Int)) (lay2.rf rfl) ?_
          refine g_aload_n lk_244_89 rfl ?_
          refine g_getfield lk_244_90 rfl (lay2.on (by decide) rfl) (v := ((150 : Nat) : Int)) (lay2.rf rfl) ?_
          refine g_iload_n lk_244_93 rfl ?_
          refine m_iaload (u := [(116, pm_upd (pm_ct N 116) 56 ((k : Int) + 1))]) (M := N) lk_244_94 (lay2.ay (by decide) rfl) (by omega) (j := t) (by omega) (v := (q : Int)) a150 ?_
          refine g_iload lk_244_95 rfl ?_
          have lay4 : Lay (Mu [(116, pm_upd (pm_ct N 116) 56 ((k : Int) + 1)), (147, pm_upd (pm_ct N 147) q (k : Int))] N) := lay2.muA (l := [(116, pm_upd (pm_ct N 116) 56 ((k : Int) + 1))]) (a := 147) (f := pm_upd (pm_ct N 147) q (k : Int)) rfl rfl
          refine m_iastore (u := [(116, pm_upd (pm_ct N 116) 56 ((k : Int) + 1))]) (u' := [(116, pm_upd (pm_ct N 116) 56 ((k : Int) + 1)), (147, pm_upd (pm_ct N 147) q (k : Int))]) (M := N) lk_244_97 (lay2.ay (by decide) rfl) (by omega) (j := q) (by omega) rfl ?_
          refine k98 _ _ _ lay4 (mu56 _ rfl (i56 _)) (fun j _ => ⟨by rw [Mu_ct]; rfl, by rw [Mu_ct]; rfl, by rw [Mu_ct]; rfl⟩) (by rw [Mu_ct]; show pm_upd (pm_ct N 116) 56 _ 56 = _; rw [pm_upd_eq]; exact ek1) ?_
          rw [hL', ← hk]
          rw [hA] at hNd
          exact hNd.put hq (by rw [Mu_ct]; rfl) (by rw [Mu_ct]; rfl) (by rw [Mu_ct]; rfl)
set_option maxHeartbeats 4000000 in
theorem c_Mo_layTree {d mc ms : Nat} {M : pm_M} (lay0 : Lay M) {T : Tab} (hT : TabOK T) (hM0 : MoAt M T) {f : Nat} (hC0 : CL M T f) {h : Nat} (hh : h < 3) :
    pm_E (d + 5) 244 [(2, ((116 : Nat) : Int)), (0, (h : Int))] M mc ms (fun ρ M' => ρ = none ∧ Lay M' ∧ MF [142, 143, 144, 145, 146, 147, 148, 149, 150] [49, 56] M M' ∧ CL M' T 1 ∧ pm_ct M' 116 56 = ((GT T h).length : Int) ∧ NdL M' 145 146 147 (GT T h)) := by
  obtain ⟨Q, hQ⟩ : ∃ Q : pm_Q, Q = (fun ρ M' => ρ = none ∧ Lay M' ∧ MF [142, 143, 144, 145, 146, 147, 148, 149, 150] [49, 56] M M' ∧ CL M' T 1 ∧ pm_ct M' 116 56 = ((GT T h).length : Int) ∧ NdL M' 145 146 147 (GT T h)) := ⟨_, rfl⟩
  rw [← hQ]
  have wh := whole_in hT
  have gl := GT_len hT h
  have k38 : ∀ (K N : pm_M) (u3 u4 u5 u6 u7 : pm_V), MF [142, 143, 144] [49] M K → CL K T 1 → Lay N → MF [145, 146, 147, 148, 149, 150] [56] K N → pm_ct N 116 56 = ((GT T h).length : Int) → NdL N 145 146 147 (GT T h) → Wp (d + 5) 244 38 [(2, ((116 : Nat) : Int)), (0, (h : Int)), (0, ((0 : Nat) : Int)), u3, u4, u5, u6, u7] [] N mc ms Q := by
    intro K N u3 u4 u5 u6 u7 fK cK layN fN c56 hN
    have m1 : MF [142, 143, 144, 145, 146, 147, 148, 149, 150] [49, 56] M K := fK.mono (fun a q => by simp at q ⊢; omega) (fun a q => by simp at q ⊢; omega)
    have m2 : MF [142, 143, 144, 145, 146, 147, 148, 149, 150] [49, 56] K N := fN.mono (fun a q => by simp at q ⊢; omega) (fun a q => by simp at q ⊢; omega)
    refine g_iload_n lk_244_38 rfl ?_
    refine g_if (t := 339) lk_244_39 rfl (by first | (unfold pm_inI; omega) | exact pm_and_in _ _ | exact pm_shr_in _ _ | exact pm_or_in _ _ | exact pm_xor_in _ _ | exact pm_shl_in _ _ | exact pm_cmp_in _ _ | exact pm_b8_in _ | (unfold pm_inI; split <;> omega)) (fun h1 => ?_) (fun h1 => ?_)
    · replace h1 : ((0 : Nat) : Int) ≤ 0 := h1
      refine g_return lk_244_339 ?_
      rw [hQ]
      exact ⟨rfl, layN, m1.trans m2, cK.mf fN (by decide) (by decide) (by decide) (by decide), c56, hN⟩
    · replace h1 : ¬ (((0 : Nat) : Int) ≤ 0) := h1
      omega
  have k4 : ∀ (K : pm_M), Lay K → MF [142, 143, 144] [49] M K → CL K T 1 → Wp (d + 5) 244 4 [(2, ((116 : Nat) : Int)), (0, (h : Int)), (9, 0), (9, 0), (9, 0), (9, 0), (9, 0), (9, 0)] [] K mc ms Q := by
    intro K layK fK cK
    have hM : MoAt K T := hM0.mf fK (by decide) (by decide) (by decide) (by decide)
    have hL : LdOK K T := cK.2.2 rfl
    have moK : ∀ {N : pm_M}, MF [145, 146, 147, 148, 149, 150] [56] K N → MoAt N T := fun f => hM.mf f (by decide) (by decide) (by decide) (by decide)
    have i56 : ∀ z : Int, ∀ j, j ∉ [56] → pm_upd (pm_ct K 116) 56 z j = pm_ct K 116 j := fun z j hj => upd_ne (by simpa using hj)
    have tg := fun (N : pm_M) (v3 v4 v5 v6 v7 : pm_V) => tree_go (d := d) (mc := mc) (ms := ms) hT hM hL hh Q 12 (2 ^ tR T - 1) (2 ^ tC T - 1) 0 (-1) [] [] N v3 v4 v5 v6 v7 wh (GT_pop hT) (by omega)
    refine g_aload_n lk_244_4 rfl ?_
    refine g_iconst lk_244_5 ?_
    have lay1 : Lay (Mu [(116, pm_upd (pm_ct K 116) 56 0)] K) := layK.muF (l := []) (a := 116) (k := 56) (z := 0) rfl rfl
    refine m_putfield (u := []) (u' := [(116, pm_upd (pm_ct K 116) 56 0)]) (M := K) lk_244_6 rfl (layK.on (by decide) rfl) (fun h => absurd h (by decide)) rfl ?_
    refine g_iconst lk_244_9 ?_
    refine g_istore_n (ls' := [(2, ((116 : Nat) : Int)), (0, (h : Int)), (0, 1), (9, 0), (9, 0), (9, 0), (9, 0), (9, 0)]) lk_244_10 rfl rfl ?_
    refine g_aload_n lk_244_11 rfl ?_
    refine g_getfield lk_244_12 rfl (lay1.on (by decide) rfl) (v := ((148 : Nat) : Int)) (lay1.rf rfl) ?_
    refine g_iconst lk_244_15 ?_
    refine g_aload_n lk_244_16 rfl ?_
    refine g_virtual (p := 116) (Qc := _) lk_244_17 rfl (Nat.le_of_ble_eq_true rfl) rfl rfl (lay1.on (by decide) rfl) (Nat.le_of_ble_eq_true rfl) (Nat.le_of_ble_eq_true rfl) (Nat.zero_le _) (Nat.zero_le _) (c_Mo_allRows lay1 hT (moK (MF.mu _ _ rfl (i56 _)))) ?_
    rintro _ N2 ⟨rfl, hN2⟩
    rw [hN2]
    show Wp _ 244 20 [(2, ((116 : Nat) : Int)), (0, (h : Int)), (0, 1), (9, 0), (9, 0), (9, 0), (9, 0), (9, 0)] [(0, ((2 ^ tR T - 1 : Nat) : Int)), (0, 0), (2, ((148 : Nat) : Int))] (Mu [(116, pm_upd (pm_ct K 116) 56 0)] K) _ _ _
    have lay3 : Lay (Mu [(116, pm_upd (pm_ct K 116) 56 0), (148, pm_upd (pm_ct K 148) 0 ((2 ^ tR T - 1 : Nat) : Int))] K) := lay1.muA (l := [(116, pm_upd (pm_ct K 116) 56 0)]) (a := 148) (f := pm_upd (pm_ct K 148) 0 ((2 ^ tR T - 1 : Nat) : Int)) rfl rfl
    refine m_iastore (u := [(116, pm_upd (pm_ct K 116) 56 0)]) (u' := [(116, pm_upd (pm_ct K 116) 56 0), (148, pm_upd (pm_ct K 148) 0 ((2 ^ tR T - 1 : Nat) : Int))]) (M := K) lk_244_20 (lay1.ay (by decide) rfl) (by omega) (j := 0) (by omega) rfl ?_
    refine g_aload_n lk_244_21 rfl ?_
    refine g_getfield lk_244_22 rfl (lay3.on (by decide) rfl) (v := ((149 : Nat) : Int)) (lay3.rf rfl) ?_
    refine g_iconst lk_244_25 ?_
    refine g_aload_n lk_244_26 rfl ?_
    refine g_virtual (p := 116) (Qc := _) lk_244_27 rfl (Nat.le_of_ble_eq_true rfl) rfl rfl (lay3.on (by decide) rfl) (Nat.le_of_ble_eq_true rfl) (Nat.le_of_ble_eq_true rfl) (Nat.zero_le _) (Nat.zero_le _) (c_Mo_allColumns lay3 hT (moK (MF.mu _ _ rfl (i56 _)))) ?_
    rintro _ N4 ⟨rfl, hN4⟩
    rw [hN4]
    show Wp _ 244 30 [(2, ((116 : Nat) : Int)), (0, (h : Int)), (0, 1), (9, 0), (9, 0), (9, 0), (9, 0), (9, 0)] [(0, ((2 ^ tC T - 1 : Nat) : Int)), (0, 0), (2, ((149 : Nat) : Int))] (Mu [(116, pm_upd (pm_ct K 116) 56 0), (148, pm_upd (pm_ct K 148) 0 ((2 ^ tR T - 1 : Nat) : Int))] K) _ _ _
    have lay5 : Lay (Mu [(116, pm_upd (pm_ct K 116) 56 0), (148, pm_upd (pm_ct K 148) 0 ((2 ^ tR T - 1 : Nat) : Int)), (149, pm_upd (pm_ct K 149) 0 ((2 ^ tC T - 1 : Nat) : Int))] K) := lay3.muA (l := [(116, pm_upd (pm_ct K 116) 56 0), (148, pm_upd (pm_ct K 148) 0 ((2 ^ tR T - 1 : Nat) : Int))]) (a := 149) (f := pm_upd (pm_ct K 149) 0 ((2 ^ tC T - 1 : Nat) : Int)) rfl rfl
    refine m_iastore (u := [(116, pm_upd (pm_ct K 116) 56 0), (148, pm_upd (pm_ct K 148) 0 ((2 ^ tR T - 1 : Nat) : Int))]) (u' := [(116, pm_upd (pm_ct K 116) 56 0), (148, pm_upd (pm_ct K 148) 0 ((2 ^ tR T - 1 : Nat) : Int)), (149, pm_upd (pm_ct K 149) 0 ((2 ^ tC T - 1 : Nat) : Int))]) (M := K) lk_244_30 (lay3.ay (by decide) rfl) (by omega) (j := 0) (by omega) rfl ?_
    refine g_aload_n lk_244_31 rfl ?_
    refine g_getfield lk_244_32 rfl (lay5.on (by decide) rfl) (v := ((150 : Nat) : Int)) (lay5.rf rfl) ?_
    refine g_iconst lk_244_35 ?_
    refine g_iconst lk_244_36 ?_
    have lay6 : Lay (Mu [(116, pm_upd (pm_ct K 116) 56 0), (148, pm_upd (pm_ct K 148) 0 ((2 ^ tR T - 1 : Nat) : Int)), (149, pm_upd (pm_ct K 149) 0 ((2 ^ tC T - 1 : Nat) : Int)), (150, pm_upd (pm_ct K 150) 0 (-1))] K) := lay5.muA (l := [(116, pm_upd (pm_ct K 116) 56 0), (148, pm_upd (pm_ct K 148) 0 ((2 ^ tR T - 1 : Nat) : Int)), (149, pm_upd (pm_ct K 149) 0 ((2 ^ tC T - 1 : Nat) : Int))]) (a := 150) (f := pm_upd (pm_ct K 150) 0 (-1)) rfl rfl
    refine m_iastore (u := [(116, pm_upd (pm_ct K 116) 56 0), (148, pm_upd (pm_ct K 148) 0 ((2 ^ tR T - 1 : Nat) : Int)), (149, pm_upd (pm_ct K 149) 0 ((2 ^ tC T - 1 : Nat) : Int))]) (u' := [(116, pm_upd (pm_ct K 116) 56 0), (148, pm_upd (pm_ct K 148) 0 ((2 ^ tR T - 1 : Nat) : Int)), (149, pm_upd (pm_ct K 149) 0 ((2 ^ tC T - 1 : Nat) : Int)), (150, pm_upd (pm_ct K 150) 0 (-1))]) (M := K) lk_244_37 (lay5.ay (by decide) rfl) (by omega) (j := 0) (by omega) rfl ?_
    refine tg (Mu [(116, pm_upd (pm_ct K 116) 56 0), (148, pm_upd (pm_ct K 148) 0 ((2 ^ tR T - 1 : Nat) : Int)), (149, pm_upd (pm_ct K 149) 0 ((2 ^ tC T - 1 : Nat) : Int)), (150, pm_upd (pm_ct K 150) 0 (-1))] K) _ _ _ _ _ lay6 (MF.mu _ _ rfl (i56 _)) ?_ ?_ ?_ ?_ (fun i x hx => by simp at hx) (Or.inl ⟨rfl, rfl⟩) (by rw [List.length_nil, Nat.zero_add]; exact gl) ?_
    · rw [Mu_ct]; show pm_upd (pm_ct K 148) 0 ((2 ^ tR T - 1 : Nat) : Int) 0 = _; rw [pm_upd_eq]
    · rw [Mu_ct]; show pm_upd (pm_ct K 149) 0 ((2 ^ tC T - 1 : Nat) : Int) 0 = _; rw [pm_upd_eq]
    · rw [Mu_ct]; show pm_upd (pm_ct K 150) 0 (-1) 0 = _; rw [pm_upd_eq]
    · rw [Mu_ct]; show pm_upd (pm_ct K 116) 56 0 56 = _; rw [pm_upd_eq]; rfl
    intro N u3 u4 u5 u6 u7 layN mfN _ c56 hN
    rw [List.nil_append] at c56 hN
    exact k38 K N u3 u4 u5 u6 u7 fK cK layN mfN c56 hN
  show Wp (d + 5) 244 0 [(2, ((116 : Nat) : Int)), (0, (h : Int)), (9, 0), (9, 0), (9, 0), (9, 0), (9, 0), (9, 0)] [] M mc ms Q
  refine g_aload_n lk_244_0 rfl ?_
  refine g_virtual (p := 116) (Qc := _) lk_244_1 rfl (Nat.le_of_ble_eq_true rfl) rfl rfl (lay0.on (by decide) rfl) (Nat.le_of_ble_eq_true rfl) (Nat.le_of_ble_eq_true rfl) (Nat.zero_le _) (Nat.zero_le _) (c_Mo_lay (d := d) lay0 hT hM0 hC0) ?_
  rintro _ K ⟨rfl, l2, f2, c2⟩
  exact k4 K l2 f2 c2
set_option maxHeartbeats 4000000 in
theorem c_Mo_node {d mc ms : Nat} {M : pm_M} (lay0 : Lay M) {T : Tab} (hT : TabOK T) (hM0 : MoAt M T) {f : Nat} (hC0 : CL M T f) {w k v : Int} (hw : pm_inI w) (hk : pm_inI k) (hv : pm_inI v) :
    pm_E (d + 6) 245 [(2, ((116 : Nat) : Int)), (0, w), (0, k), (0, v)] M mc ms (fun ρ M' => ρ = some (0, sNode T w k v) ∧ Lay M' ∧ MF [142, 143, 144, 145, 146, 147, 148, 149, 150] [0, 49, 56] M M' ∧ ∃ f', CL M' T f') := by
  obtain ⟨Q, hQ⟩ : ∃ Q : pm_Q, Q = (fun ρ M' => ρ = some (0, sNode T w k v) ∧ Lay M' ∧ MF [142, 143, 144, 145, 146, 147, 148, 149, 150] [0, 49, 56] M M' ∧ ∃ f', CL M' T f') := ⟨_, rfl⟩
  rw [← hQ]
  have th := MF.th (S := [142, 143, 144, 145, 146, 147, 148, 149, 150]) (K := [0, 49, 56]) (by decide) M
  have cl1 : CL (Mu [(116, pm_upd (pm_ct M 116) 0 0)] M) T f := hC0.mf (MF.th (S := []) (K := [0]) (by decide) M) (by decide) (by decide) (by decide) (by decide)
  have mo1 : MoAt (Mu [(116, pm_upd (pm_ct M 116) 0 0)] M) T := hM0.mf (MF.th (S := []) (K := [0]) (by decide) M) (by decide) (by decide) (by decide) (by decide)
  have k21 : ∀ (N : pm_M) (h : Nat), h < 3 → w = (h : Int) → Lay N → MF [142, 143, 144, 145, 146, 147, 148, 149, 150] [0, 49, 56] M N → CL N T 1 → pm_ct N 116 56 = ((GT T h).length : Int) → NdL N 145 146 147 (GT T h) → Wp (d + 6) 245 21 [(2, ((116 : Nat) : Int)), (0, w), (0, k), (0, v)] [] N mc ms Q := by
    intro N h hh ew layN mN cN c56 hN
    have gl := GT_len hT h
    obtain ⟨l, hl⟩ : ∃ l, l = (GT T h).length := ⟨_, rfl⟩
    rw [← hl] at c56 gl
    have eN : sNode T w k v = if k = -1 then (l : Int) else ndOf (GT T h) k v := by
      unfold sNode ndOf
      rw [if_neg (by omega), hl, ew]
      rfl
    rw [eN] at hQ
    have k49 : 0 ≤ k → k ≤ (l : Int) - 1 → Wp (d + 6) 245 49 [(2, ((116 : Nat) : Int)), (0, w), (0, k), (0, v)] [] N mc ms Q := by
      intro a1 a2
      obtain ⟨i, rfl⟩ := Int.eq_ofNat_of_zero_le a1
      obtain ⟨x, hx⟩ : ∃ x, (GT T h)[i]? = some x := ⟨(GT T h)[i]'(by omega), List.getElem?_eq_getElem (by omega)⟩
      have xx := hN i x hx
      have gd : (GT T h).getD i (0, 0, 0) = x := by rw [List.getD_eq_getElem?_getD, hx]; rfl
      have nd : (if (i : Int) = -1 then (l : Int) else ndOf (GT T h) (i : Int) v) = if v = 0 then (x.1 : Int) else if v = 1 then (x.2.1 : Int) else if v = 2 then x.2.2 else -1 := by
        unfold ndOf
        rw [if_neg (by omega), if_neg (by omega), Int.toNat_natCast, gd]
      rw [nd] at hQ
      refine g_iload_n lk_245_49 rfl ?_
      refine g_if (t := 62) lk_245_50 rfl (by first | assumption | (unfold pm_inI; omega)) (fun h1 => ?_) (fun h1 => ?_)
      · replace h1 : ¬ v = 0 := h1
        refine g_iload_n lk_245_62 rfl ?_
        refine g_iconst lk_245_63 ?_
        refine g_icmp (t := 76) lk_245_64 rfl (by first | assumption | (unfold pm_inI; omega)) (by first | assumption | (unfold pm_inI; omega)) (fun h2 => ?_) (fun h2 => ?_)
        · replace h2 : ¬ v = 1 := h2
          refine g_iload_n lk_245_76 rfl ?_
          refine g_iconst lk_245_77 ?_
          refine g_icmp (t := 90) lk_245_78 rfl (by first | assumption | (unfold pm_inI; omega)) (by first | assumption | (unfold pm_inI; omega)) (fun h3 => ?_) (fun h3 => ?_)
          · replace h3 : ¬ v = 2 := h3
            refine g_iconst lk_245_90 ?_
            refine g_ireturn lk_245_91 (fun h => absurd h (by decide)) ?_
            rw [hQ]
            exact ⟨by rw [if_neg (by omega), if_neg (by omega), if_neg (by omega)], layN, mN, 1, cN⟩
          · replace h3 : ¬ (¬ v = 2) := h3
            refine g_aload_n lk_245_81 rfl ?_
            refine g_getfield lk_245_82 rfl (layN.on (by decide) rfl) (v := ((147 : Nat) : Int)) (layN.rf rfl) ?_
            refine g_iload_n lk_245_85 rfl ?_
            refine m_iaload (u := []) (M := N) lk_245_86 (layN.ay (by decide) rfl) (by omega) (j := i) (by omega) (v := x.2.2) xx.2.2 ?_
            refine g_goto (t := 91) lk_245_87 rfl ?_
            refine g_ireturn lk_245_91 (fun h => absurd h (by decide)) ?_
            rw [hQ]
            exact ⟨by rw [if_neg (by omega), if_neg (by omega), if_pos (by omega)], layN, mN, 1, cN⟩
        · replace h2 : ¬ (¬ v = 1) := h2
          refine g_aload_n lk_245_67 rfl ?_
          refine g_getfield lk_245_68 rfl (layN.on (by decide) rfl) (v := ((146 : Nat) : Int)) (layN.rf rfl) ?_
          refine g_iload_n lk_245_71 rfl ?_
          refine m_iaload (u := []) (M := N) lk_245_72 (layN.ay (by decide) rfl) (by omega) (j := i) (by omega) (v := (x.2.1 : Int)) xx.2.1 ?_
          refine g_goto (t := 91) lk_245_73 rfl ?_
          refine g_ireturn lk_245_91 (fun h => absurd h (by decide)) ?_
          rw [hQ]
          exact ⟨by rw [if_neg (by omega), if_pos (by omega)], layN, mN, 1, cN⟩
      · replace h1 : ¬ (¬ v = 0) := h1
        refine g_aload_n lk_245_53 rfl ?_
        refine g_getfield lk_245_54 rfl (layN.on (by decide) rfl) (v := ((145 : Nat) : Int)) (layN.rf rfl) ?_
        refine g_iload_n lk_245_57 rfl ?_
        refine m_iaload (u := []) (M := N) lk_245_58 (layN.ay (by decide) rfl) (by omega) (j := i) (by omega) (v := (x.1 : Int)) xx.1 ?_
        refine g_goto (t := 91) lk_245_59 rfl ?_
        refine g_ireturn lk_245_91 (fun h => absurd h (by decide)) ?_
        rw [hQ]
        exact ⟨by rw [if_pos (by omega)], layN, mN, 1, cN⟩
    refine g_iload_n lk_245_21 rfl ?_
    refine g_iconst lk_245_22 ?_
    refine g_icmp (t := 31) lk_245_23 rfl (by first | assumption | (unfold pm_inI; omega) | (unfold pm_inI; split <;> omega)) (by first | assumption | (unfold pm_inI; omega) | (unfold pm_inI; split <;> omega)) (fun h1 => ?_) (fun h1 => ?_)
    · replace h1 : ¬ k = (-1) := h1
      refine g_iload_n lk_245_31 rfl ?_
      refine g_iconst lk_245_32 ?_
      refine g_aload_n lk_245_33 rfl ?_
      refine m_getfield (u := []) (M := N) lk_245_34 rfl (layN.on (by decide) rfl) (v := (l : Int)) c56 ?_
      refine g_iconst lk_245_37 ?_
      refine g_isub lk_245_38 ?_
      refine g_static (Qc := _) lk_245_39 (by decide) rfl (Nat.le_of_ble_eq_true rfl) rfl rfl (Nat.le_of_ble_eq_true rfl) (Nat.le_of_ble_eq_true rfl) (Nat.zero_le _) (Nat.zero_le _) (c_Mo_in (by assumption) (by unfold pm_inI; omega) (by unfold pm_inI; omega)) ?_
      rintro _ N2 ⟨rfl, hN2⟩
      rw [hN2]
      show Wp _ 245 42 [(2, ((116 : Nat) : Int)), (0, w), (0, k), (0, v)] [(0, (if 0 ≤ k ∧ k ≤ ((l : Int) - 1) then (1 : Int) else 0))] N _ _ _
      refine g_if (t := 49) lk_245_42 rfl (by first | assumption | (unfold pm_inI; omega) | (unfold pm_inI; split <;> omega)) (fun h3 => ?_) (fun h3 => ?_)
      · replace h3 : ¬ (if 0 ≤ k ∧ k ≤ ((l : Int) - 1) then (1 : Int) else 0) = 0 := h3
        have a := in_yes h3
        exact k49 a.1 a.2
      · replace h3 : ¬ (¬ (if 0 ≤ k ∧ k ≤ ((l : Int) - 1) then (1 : Int) else 0) = 0) := h3
        refine g_iconst lk_245_45 ?_
        refine g_goto (t := 91) lk_245_46 rfl ?_
        refine g_ireturn lk_245_91 (fun h => absurd h (by decide)) ?_
        have a := in_no (Classical.byContradiction h3)
        rw [hQ]
        refine ⟨?_, layN, mN, 1, cN⟩
        unfold ndOf
        rw [if_neg (by omega), if_pos (by omega)]
    · replace h1 : ¬ (¬ k = (-1)) := h1
      refine g_aload_n lk_245_26 rfl ?_
      refine m_getfield (u := []) (M := N) lk_245_27 rfl (layN.on (by decide) rfl) (v := (l : Int)) c56 ?_
      refine g_ireturn lk_245_30 (fun h => absurd h (by decide)) ?_
      rw [hQ]
      exact ⟨by rw [if_pos (by omega)], layN, mN, 1, cN⟩
  show Wp (d + 6) 245 0 [(2, ((116 : Nat) : Int)), (0, w), (0, k), (0, v)] [] M mc ms Q
  refine g_aload_n lk_245_0 rfl ?_
  refine g_iconst lk_245_1 ?_
  have lay1 : Lay (Mu [(116, pm_upd (pm_ct M 116) 0 0)] M) := lay0.muF (l := []) (a := 116) (k := 0) (z := 0) rfl rfl
  refine m_putfield (u := []) (u' := [(116, pm_upd (pm_ct M 116) 0 0)]) (M := M) lk_245_2 rfl (lay0.on (by decide) rfl) (fun h => absurd h (by decide)) rfl ?_
  refine g_iload_n lk_245_5 rfl ?_
  refine g_iconst lk_245_6 ?_
  refine g_iconst lk_245_7 ?_
  refine g_static (Qc := _) lk_245_8 (by decide) rfl (Nat.le_of_ble_eq_true rfl) rfl rfl (Nat.le_of_ble_eq_true rfl) (Nat.le_of_ble_eq_true rfl) (Nat.zero_le _) (Nat.zero_le _) (c_Mo_in (by assumption) (by unfold pm_inI; omega) (by unfold pm_inI; omega)) ?_
  rintro _ N2 ⟨rfl, hN2⟩
  rw [hN2]
  show Wp _ 245 11 [(2, ((116 : Nat) : Int)), (0, w), (0, k), (0, v)] [(0, (if 0 ≤ w ∧ w ≤ 2 then (1 : Int) else 0))] (Mu [(116, pm_upd (pm_ct M 116) 0 0)] M) _ _ _
  refine g_if (t := 16) lk_245_11 rfl (by first | (unfold pm_inI; omega) | (unfold pm_inI; split <;> omega)) (fun h3 => ?_) (fun h3 => ?_)
  · replace h3 : ¬ (if 0 ≤ w ∧ w ≤ 2 then (1 : Int) else 0) = 0 := h3
    refine g_aload_n lk_245_16 rfl ?_
    refine g_iload_n lk_245_17 rfl ?_
    obtain ⟨w1, w2⟩ := in_yes h3
    obtain ⟨h, ew⟩ := Int.eq_ofNat_of_zero_le w1
    have lt := c_Mo_layTree (d := d) (mc := 0) (ms := 0) lay1 hT mo1 cl1 (h := h) (by omega)
    rw [← ew] at lt
    refine g_virtual (p := 116) (Qc := _) lk_245_18 rfl (Nat.le_of_ble_eq_true rfl) rfl rfl (lay1.on (by decide) rfl) (Nat.le_of_ble_eq_true rfl) (Nat.le_of_ble_eq_true rfl) (Nat.zero_le _) (Nat.zero_le _) lt ?_
    rintro _ N ⟨rfl, l2, f2, c2, c56, hN⟩
    exact k21 N h (by omega) ew l2 (th.trans (f2.mono (fun a q => q) (fun a q => by simp at q ⊢; omega))) c2 c56 hN
  · replace h3 : ¬ (¬ (if 0 ≤ w ∧ w ≤ 2 then (1 : Int) else 0) = 0) := h3
    refine g_iconst lk_245_14 ?_
    refine g_ireturn lk_245_15 (fun h => absurd h (by decide)) ?_
    rw [hQ]
    refine ⟨?_, lay1, th, f, cl1⟩
    have := in_no (Classical.byContradiction h3)
    unfold sNode
    rw [if_pos (by omega)]
