/-! ===== a tree's line, by the class ===== -/
theorem TrsX.push {A B : pm_M} {Ts : List Nt} {x : Nt} {m : Nat} (e : Ts.length = m) (h : TrsX A Ts) (m4 : m < 4) (f : ∀ a, 8 ≤ a → a < 24 → ¬ (8 + 4 * m ≤ a ∧ a ≤ 8 + 4 * m + 3) → pm_ct B a = pm_ct A a) (g7 : ∀ i, i < m → pm_ct B 7 i = pm_ct A 7 i) (gm : pm_ct B 7 m = ((nr 27 x.1 : Nat) : Int)) (lx : LtOK x.1) (c : pm_ct B (8 + 4 * m) 3 = (x.2.length : Int)) (s : SgAt B (8 + 4 * m) 0 (x.2.map (fun y => y.1))) (h5 : pm_ct B 2 5 = ((m + 1 : Nat) : Int)) : TrsX B (Ts ++ [x]) := by
  refine ⟨by rw [h5, List.length_append, e]; rfl, fun i y hy => ?_⟩
  by_cases l : i < m
  · rw [List.getElem?_append_left (by omega)] at hy
    obtain ⟨a1, a2, a3, a4⟩ := h.2 i y hy
    refine ⟨by rw [g7 i l]; exact a1, a2, by rw [f (8 + 4 * i) (by omega) (by omega) (by omega)]; exact a3, ?_⟩
    intro j z hz
    rw [f (8 + 4 * i + 1) (by omega) (by omega) (by omega), f (8 + 4 * i + 2) (by omega) (by omega) (by omega), f (8 + 4 * i + 3) (by omega) (by omega) (by omega)]
    exact a4 j z hz
  · rw [List.getElem?_append_right (by omega)] at hy
    by_cases q : i = m
    · rw [q, e, Nat.sub_self, List.getElem?_cons_zero] at hy
      cases hy
      rw [q]
      exact ⟨gm, lx, c, s⟩
    · obtain ⟨k, hk⟩ : ∃ k, i - Ts.length = k + 1 := ⟨i - Ts.length - 1, by omega⟩
      rw [hk, List.getElem?_cons_succ] at hy
      cases hy
theorem TrsX.rd {M N : pm_M} {Ts : List Nt} (h : TrsX M Ts) (k : RdF M N) (m4 : Ts.length ≤ 4) : TrsX N Ts := by
  refine ⟨by rw [k.2 5 (by decide)]; exact h.1, fun i y hy => ?_⟩
  obtain ⟨a1, a2, a3, a4⟩ := h.2 i y hy
  refine ⟨by rw [k.1.ct (by decide)]; exact a1, a2, by rw [k.1.ct (by simp <;> omega)]; exact a3, ?_⟩
  intro j z hz
  rw [k.1.ct (a := 8 + 4 * i + 1) (by simp <;> omega), k.1.ct (a := 8 + 4 * i + 2) (by simp <;> omega), k.1.ct (a := 8 + 4 * i + 3) (by simp <;> omega)]
  exact a4 j z hz
set_option maxHeartbeats 4000000 in
theorem c_Reader_readTree {d mc ms n R C : Nat} {ch : Nat → Nat} {M : pm_M} (lay : Lay M) (r6 : R ≤ 6) (c6 : C ≤ 6) (hM : TcX M n ch) {t : Tok} (hT : TkX M ch t) (hK : TkOK ch n t) (hR : pm_ct M 4 1 = (R : Int)) (hC : pm_ct M 4 2 = (C : Int)) {Ts : List Nt} (hS : TrsX M Ts) (m4 : Ts.length ≤ 4) :
    pm_E (d + 13) 62 [(2, ((2 : Nat) : Int))] M mc ms (fun ρ M' => Lay M' ∧ TeF M M' ∧ ResX ρ M' (fun x => TkX M' ch x.2 ∧ TrsX M' (Ts ++ [x.1]) ∧ Sv M M') (pTree ch n R C Ts t)) := by
  obtain ⟨Q, hQ⟩ : ∃ Q : pm_Q, Q = (fun ρ M' => Lay M' ∧ TeF M M' ∧ ResX ρ M' (fun x => TkX M' ch x.2 ∧ TrsX M' (Ts ++ [x.1]) ∧ Sv M M') (pTree ch n R C Ts t)) := ⟨_, rfl⟩
  rw [← hQ]
  have n5 := hM.1
  have f5 := hS.1
  have rf5 := c_Reader_refuse (d := d + 12) (mc := 0) (ms := 0) lay hT hK.1 (w := 5)
  have ad := c_Reader_advance (d := d + 11) (mc := 0) (ms := 0) lay hM hT.2.2.2.1 hK.2.2.1
  have uk := (lxt_ok (ch := ch) hK.2.2.1 n5).1
  obtain ⟨m, hm⟩ : ∃ m, Ts.length = m := ⟨_, rfl⟩
  rw [hm] at f5 m4
  show Wp (d + 13) 62 0 [(2, ((2 : Nat) : Int)), (9, 0)] [] M mc ms Q
  by_cases a : 4 ≤ m
  · rw [pTree_5 (by omega)] at hQ
    refine g_aload_n lk_62_0 rfl ?_
    refine m_getfield (u := []) (M := M) lk_62_1 rfl (lay.on (by decide) rfl) (v := (m : Int)) f5 ?_
    refine g_iconst lk_62_4 ?_
    refine g_icmp (t := 14) lk_62_5 rfl (by first | (unfold pm_inI; omega) | exact pm_and_in _ _ | exact pm_shr_in _ _ | exact pm_or_in _ _ | exact pm_xor_in _ _ | exact pm_shl_in _ _ | exact pm_cmp_in _ _ | exact pm_b8_in _ | (unfold pm_inI; split <;> omega)) (by first | (unfold pm_inI; omega) | exact pm_and_in _ _ | exact pm_shr_in _ _ | exact pm_or_in _ _ | exact pm_xor_in _ _ | exact pm_shl_in _ _ | exact pm_cmp_in _ _ | exact pm_b8_in _ | (unfold pm_inI; split <;> omega)) (fun h1 => ?_) (fun h1 => ?_)
    · replace h1 : (m : Int) < 4 := h1
      omega
    · replace h1 : ¬ ((m : Int) < 4) := h1
      refine g_aload_n lk_62_8 rfl ?_
      refine g_iconst lk_62_9 ?_
      refine g_virtual (p := 2) (Qc := _) lk_62_10 rfl (Nat.le_of_ble_eq_true rfl) rfl rfl (lay.on (by decide) rfl) (Nat.le_of_ble_eq_true rfl) (Nat.le_of_ble_eq_true rfl) (Nat.zero_le _) (Nat.zero_le _) (rf5) ?_
      rintro _ K1 ⟨rfl, lay1, re1, ft1⟩
      show Wp _ 62 13 [(2, ((2 : Nat) : Int)), (9, 0)] [(0, 0)] K1 _ _ _
      refine g_ireturn lk_62_13 (fun _ => by omega) ?_
      rw [hQ]
      exact ⟨lay1, re1.te, rfl, ft1⟩
  · have a' : ¬ 4 ≤ Ts.length := by omega
    obtain ⟨u, hu⟩ : ∃ u, u = lxt ch n t.2.2 := ⟨_, rfl⟩
    rw [← hu] at ad uk
    have go : ∀ K1 : pm_M, Lay K1 → RdF M K1 → TkX K1 ch u → Wp (d + 13) 62 18 [(2, ((2 : Nat) : Int)), (9, 0)] [] K1 mc ms Q := by
      intro K1 lay1 rd1 tk1
      have hS1 := hS.rd rd1 (by omega)
      have f51 : pm_ct K1 2 5 = (m : Int) := by rw [hS1.1, hm]
      have tc1 := hM.rd rd1
      have rf2 := c_Reader_refuse (d := d + 12) (mc := 0) (ms := 0) lay1 tk1 uk.1 (w := 2)
      have rf3 := c_Reader_refuse (d := d + 12) (mc := 0) (ms := 0) lay1 tk1 uk.1 (w := 3)
      have f10 := tk1.1
      have t4 := uk.1
      by_cases e : u.1 = 1
      · have f10' : pm_ct K1 2 10 = 1 := by rw [f10, e]; rfl
        have f13 : pm_ct K1 2 13 = ((nr 27 (twd ch u) : Nat) : Int) := tk1.2.2.2.2 e
        have ws : nr 27 (twd ch u) < 1073741824 := nr_small (b := 27) (by omega) (by omega) (uk.lt e)
        have ik := c_Reader_isKept (d := d + 12) (mc := 0) (ms := 0) lay1 ws
        have kn := kept_nm uk e
        obtain ⟨v, hv⟩ : ∃ v, v = nr 27 (twd ch u) := ⟨_, rfl⟩
        rw [← hv] at f13 ws ik kn
        by_cases g : isNm ch u
        · rw [if_neg (fun q => (kn.mp q) g)] at ik
          have tl : ∀ (K2 : pm_M) (v1 : pm_V), twd ch u ∉ Ts.map (fun x => x.1) → Lay K2 → Fr [7] K1 K2 → pm_ct K2 7 = pm_upd (pm_ct K1 7) m (v : Int) → Wp (d + 13) 62 90 [(2, ((2 : Nat) : Int)), v1] [] K2 mc ms Q := by
            intro K2 v1 nin lay2 f2 e7
            have te2 : TeF M K2 := rd1.re.te.trans ⟨f2.mono (fun a q => by simp at q; simp [q]), fun j _ => by rw [f2.ct (by decide)]⟩
            have c5 : pm_ct K2 2 5 = (m : Int) := by rw [f2.ct (by decide)]; exact f51
            have tk2 : TkX K2 ch u := by unfold TkX at tk1 ⊢; rw [f2.ct (by decide)]; exact tk1
            have hR2 : pm_ct K2 4 1 = (R : Int) := by rw [te2.1.ct (by decide)]; exact hR
            have hC2 : pm_ct K2 4 2 = (C : Int) := by rw [te2.1.ct (by decide)]; exact hC
            have x0 : ∀ e K, pN ch n R C 10 0 0 0 (lxt ch n u.2.2) = .inl e → Lay K → TeF K2 K → FtX K e → Q (some (0, 0)) K := fun e K k1 l f ft => by
              rw [hu] at k1 g nin
              rw [hQ, pTree_n a' g nin k1]
              exact ⟨l, te2.trans f, rfl, ft⟩
            have x1 : ∀ L t1 e K, pN ch n R C 10 0 0 0 (lxt ch n u.2.2) = .inr (L, t1) → pStop ch n t1 = .inl e → Lay K → TeF K2 K → FtX K e → Q (some (0, 0)) K := fun L t1 e K k1 k2 l f ft => by
              rw [hu] at k1 g nin
              rw [hQ, pTree_s a' g nin k1 k2]
              exact ⟨l, te2.trans f, rfl, ft⟩
            have x2 : ∀ L t1 t' K, pN ch n R C 10 0 0 0 (lxt ch n u.2.2) = .inr (L, t1) → pStop ch n t1 = .inr t' → Lay K → TeF K2 K → Fr [2, 8 + 4 * m, 8 + 4 * m + 1, 8 + 4 * m + 2, 8 + 4 * m + 3] K2 K → TkX K ch t' → Sv K2 K → pm_ct K 2 5 = ((m + 1 : Nat) : Int) → pm_ct K (8 + 4 * m) 3 = (L.length : Int) → SgAt K (8 + 4 * m) 0 (L.map (fun y => y.1)) → Q (some (0, 1)) K := fun L t1 t' K k1 k2 l f f3 tk sv h5 c s => by
              have g7 : pm_ct K 7 = pm_upd (pm_ct K1 7) m (v : Int) := by rw [f3.ct (by simp <;> omega)]; exact e7
              have pu : TrsX K (Ts ++ [(twd ch u, L)]) := TrsX.push hm hS1 (by omega) (fun a b1 b2 b3 => by rw [f3.ct (by simp <;> omega), f2.ct (by simp <;> omega)]) (fun i hi => by rw [g7]; exact pm_upd_ne (by omega)) (by rw [g7, pm_upd_eq, hv]) (uk.lt e) c s h5
              rw [hu] at k1 g nin pu
              rw [hQ, pTree_ok a' g nin k1 k2]
              exact ⟨l, te2.trans f, rfl, tk, pu, (rd1.sv.trans (f2.sv (by decide))).trans sv⟩
            obtain hm0 | hm0 | hm0 | hm0 : m = 0 ∨ m = 1 ∨ m = 2 ∨ m = 3 := by omega
            · rw [hm0] at c5 x2
              exact c_Reader_tail0 lay2 r6 c6 (te2.tc hM) tk2 uk hR2 hC2 c5 v1 Q x0 x1 (fun L t1 t' K b1 b2 b3 b4 b5 b6 b7 b8 b9 b0 => x2 L t1 t' K b1 b2 b3 b4 b5 b6 b7 b8 b9 b0)
            · rw [hm0] at c5 x2
              exact c_Reader_tail1 lay2 r6 c6 (te2.tc hM) tk2 uk hR2 hC2 c5 v1 Q x0 x1 (fun L t1 t' K b1 b2 b3 b4 b5 b6 b7 b8 b9 b0 => x2 L t1 t' K b1 b2 b3 b4 b5 b6 b7 b8 b9 b0)
            · rw [hm0] at c5 x2
              exact c_Reader_tail2 lay2 r6 c6 (te2.tc hM) tk2 uk hR2 hC2 c5 v1 Q x0 x1 (fun L t1 t' K b1 b2 b3 b4 b5 b6 b7 b8 b9 b0 => x2 L t1 t' K b1 b2 b3 b4 b5 b6 b7 b8 b9 b0)
            · rw [hm0] at c5 x2
              exact c_Reader_tail3 lay2 r6 c6 (te2.tc hM) tk2 uk hR2 hC2 c5 v1 Q x0 x1 (fun L t1 t' K b1 b2 b3 b4 b5 b6 b7 b8 b9 b0 => x2 L t1 t' K b1 b2 b3 b4 b5 b6 b7 b8 b9 b0)
          have loop : ∀ (k i : Nat), i + k = m → (∀ j x, j < i → Ts[j]? = some x → ¬ x.1 = twd ch u) → Wp (d + 13) 62 44 [(2, ((2 : Nat) : Int)), (0, (i : Int))] [] K1 mc ms Q := by
            intro k
            induction k with
            | zero =>
              intro i hi no
              have nin : twd ch u ∉ Ts.map (fun x => x.1) := fun q => by
                obtain ⟨x, hx, ex⟩ := List.mem_map.mp q
                obtain ⟨j, hj, ej⟩ := List.mem_iff_getElem.mp hx
                exact no j x (by omega) (by rw [List.getElem?_eq_getElem hj, ej]) ex
              refine g_iload_n lk_62_44 rfl ?_
              refine g_aload_n lk_62_45 rfl ?_
              refine m_getfield (u := []) (M := K1) lk_62_46 rfl (lay1.on (by decide) rfl) (v := (m : Int)) f51 ?_
              refine g_icmp (t := 77) lk_62_49 rfl (by first | (unfold pm_inI; omega) | exact pm_and_in _ _ | exact pm_shr_in _ _ | exact pm_or_in _ _ | exact pm_xor_in _ _ | exact pm_shl_in _ _ | exact pm_cmp_in _ _ | exact pm_b8_in _ | (unfold pm_inI; split <;> omega)) (by first | (unfold pm_inI; omega) | exact pm_and_in _ _ | exact pm_shr_in _ _ | exact pm_or_in _ _ | exact pm_xor_in _ _ | exact pm_shl_in _ _ | exact pm_cmp_in _ _ | exact pm_b8_in _ | (unfold pm_inI; split <;> omega)) (fun h1 => ?_) (fun h1 => ?_)
              · replace h1 : (m : Int) ≤ (i : Int) := h1
                refine g_aload_n lk_62_77 rfl ?_
                refine g_getfield lk_62_78 rfl (lay1.on (by decide) rfl) (v := ((7 : Nat) : Int)) (lay1.rf rfl) ?_
                refine g_aload_n lk_62_81 rfl ?_
                refine m_getfield (u := []) (M := K1) lk_62_82 rfl (lay1.on (by decide) rfl) (v := (m : Int)) f51 ?_
                refine g_aload_n lk_62_85 rfl ?_
                refine m_getfield (u := []) (M := K1) lk_62_86 rfl (lay1.on (by decide) rfl) (v := (v : Int)) f13 ?_
                have lay2 : Lay (Mu [(7, pm_upd (pm_ct K1 7) m (v : Int))] K1) := lay1.muA (l := []) (a := 7) (f := pm_upd (pm_ct K1 7) m (v : Int)) rfl rfl
                refine m_iastore (u := []) (u' := [(7, pm_upd (pm_ct K1 7) m (v : Int))]) (M := K1) lk_62_89 (lay1.ay (by decide) rfl) (by omega) (j := m) (by omega) rfl ?_
                exact tl (Mu [(7, pm_upd (pm_ct K1 7) m (v : Int))] K1) _ nin lay2 (Fr.mu _ _ rfl) (by rw [Mu_ct]; rfl)
              · replace h1 : ¬ ((m : Int) ≤ (i : Int)) := h1
                omega
            | succ k ih =>
              intro i hi no
              have li : i < Ts.length := by omega
              obtain ⟨a1, a2, _, _⟩ := hS1.2 i Ts[i] (List.getElem?_eq_getElem li)
              have ww := w27 a2 (uk.lt e)
              have x9 := nr_small (b := 27) (by omega) (by omega) a2
              by_cases q : Ts[i].1 = twd ch u
              · have a1' : pm_ct K1 7 i = (v : Int) := by rw [a1, q, hv]
                have g' := g
                rw [hu] at g'
                have ep := pTree_3 (R := R) (C := C) a' g' (by rw [← hu]; exact List.mem_map.mpr ⟨Ts[i], List.getElem_mem li, q⟩)
                rw [ep, ← hu] at hQ
                clear ih tl kn ww
                refine g_iload_n lk_62_44 rfl ?_
                refine g_aload_n lk_62_45 rfl ?_
                refine m_getfield (u := []) (M := K1) lk_62_46 rfl (lay1.on (by decide) rfl) (v := (m : Int)) f51 ?_
                refine g_icmp (t := 77) lk_62_49 rfl (by first | (unfold pm_inI; omega) | exact pm_and_in _ _ | exact pm_shr_in _ _ | exact pm_or_in _ _ | exact pm_xor_in _ _ | exact pm_shl_in _ _ | exact pm_cmp_in _ _ | exact pm_b8_in _ | (unfold pm_inI; split <;> omega)) (by first | (unfold pm_inI; omega) | exact pm_and_in _ _ | exact pm_shr_in _ _ | exact pm_or_in _ _ | exact pm_xor_in _ _ | exact pm_shl_in _ _ | exact pm_cmp_in _ _ | exact pm_b8_in _ | (unfold pm_inI; split <;> omega)) (fun h1 => ?_) (fun h1 => ?_)
                · replace h1 : (m : Int) ≤ (i : Int) := h1
                  omega
                · replace h1 : ¬ ((m : Int) ≤ (i : Int)) := h1
                  refine g_aload_n lk_62_52 rfl ?_
                  refine g_getfield lk_62_53 rfl (lay1.on (by decide) rfl) (v := ((7 : Nat) : Int)) (lay1.rf rfl) ?_
                  refine g_iload_n lk_62_56 rfl ?_
                  refine m_iaload (u := []) (M := K1) lk_62_57 (lay1.ay (by decide) rfl) (by omega) (j := i) (by omega) (v := pm_ct K1 7 i) rfl ?_
                  refine g_top (z := (pm_ct K1 7 i)) (z' := (v : Int)) (a1') ?_
                  refine g_aload_n lk_62_58 rfl ?_
                  refine m_getfield (u := []) (M := K1) lk_62_59 rfl (lay1.on (by decide) rfl) (v := (v : Int)) f13 ?_
                  refine g_icmp (t := 71) lk_62_62 rfl (by first | (unfold pm_inI; omega) | exact pm_and_in _ _ | exact pm_shr_in _ _ | exact pm_or_in _ _ | exact pm_xor_in _ _ | exact pm_shl_in _ _ | exact pm_cmp_in _ _ | exact pm_b8_in _ | (unfold pm_inI; split <;> omega)) (by first | (unfold pm_inI; omega) | exact pm_and_in _ _ | exact pm_shr_in _ _ | exact pm_or_in _ _ | exact pm_xor_in _ _ | exact pm_shl_in _ _ | exact pm_cmp_in _ _ | exact pm_b8_in _ | (unfold pm_inI; split <;> omega)) (fun h2 => ?_) (fun h2 => ?_)
                  · replace h2 : ¬ (v : Int) = (v : Int) := h2
                    omega
                  · replace h2 : ¬ (¬ (v : Int) = (v : Int)) := h2
                    refine g_aload_n lk_62_65 rfl ?_
                    refine g_iconst lk_62_66 ?_
                    refine g_virtual (p := 2) (Qc := _) lk_62_67 rfl (Nat.le_of_ble_eq_true rfl) rfl rfl (lay1.on (by decide) rfl) (Nat.le_of_ble_eq_true rfl) (Nat.le_of_ble_eq_true rfl) (Nat.zero_le _) (Nat.zero_le _) (rf3) ?_
                    rintro _ K3 ⟨rfl, lay3, re3, ft3⟩
                    show Wp _ 62 70 [(2, ((2 : Nat) : Int)), (0, (i : Int))] [(0, 0)] K3 _ _ _
                    refine g_ireturn lk_62_70 (fun _ => by omega) ?_
                    rw [hQ]
                    exact ⟨lay3, rd1.re.te.trans re3.te, rfl, ft3⟩
              · have nx := ih (i + 1) (by omega) (fun j x hj hx => by
                  by_cases q2 : j = i
                  · rw [q2, List.getElem?_eq_getElem li] at hx
                    cases hx
                    exact q
                  · exact no j x (by omega) hx)
                obtain ⟨y, hy⟩ : ∃ y, y = nr 27 Ts[i].1 := ⟨_, rfl⟩
                have ne : ¬ (y : Int) = (v : Int) := by rw [hy, hv]; exact fun z => q (ww.mp z)
                rw [← hy] at a1 x9
                clear ih tl kn ww
                refine g_iload_n lk_62_44 rfl ?_
                refine g_aload_n lk_62_45 rfl ?_
                refine m_getfield (u := []) (M := K1) lk_62_46 rfl (lay1.on (by decide) rfl) (v := (m : Int)) f51 ?_
                refine g_icmp (t := 77) lk_62_49 rfl (by first | (unfold pm_inI; omega) | exact pm_and_in _ _ | exact pm_shr_in _ _ | exact pm_or_in _ _ | exact pm_xor_in _ _ | exact pm_shl_in _ _ | exact pm_cmp_in _ _ | exact pm_b8_in _ | (unfold pm_inI; split <;> omega)) (by first | (unfold pm_inI; omega) | exact pm_and_in _ _ | exact pm_shr_in _ _ | exact pm_or_in _ _ | exact pm_xor_in _ _ | exact pm_shl_in _ _ | exact pm_cmp_in _ _ | exact pm_b8_in _ | (unfold pm_inI; split <;> omega)) (fun h1 => ?_) (fun h1 => ?_)
                · replace h1 : (m : Int) ≤ (i : Int) := h1
                  omega
                · replace h1 : ¬ ((m : Int) ≤ (i : Int)) := h1
                  refine g_aload_n lk_62_52 rfl ?_
                  refine g_getfield lk_62_53 rfl (lay1.on (by decide) rfl) (v := ((7 : Nat) : Int)) (lay1.rf rfl) ?_
                  refine g_iload_n lk_62_56 rfl ?_
                  refine m_iaload (u := []) (M := K1) lk_62_57 (lay1.ay (by decide) rfl) (by omega) (j := i) (by omega) (v := pm_ct K1 7 i) rfl ?_
                  refine g_top (z := (pm_ct K1 7 i)) (z' := (y : Int)) (a1) ?_
                  refine g_aload_n lk_62_58 rfl ?_
                  refine m_getfield (u := []) (M := K1) lk_62_59 rfl (lay1.on (by decide) rfl) (v := (v : Int)) f13 ?_
                  refine g_icmp (t := 71) lk_62_62 rfl (by first | (unfold pm_inI; omega) | exact pm_and_in _ _ | exact pm_shr_in _ _ | exact pm_or_in _ _ | exact pm_xor_in _ _ | exact pm_shl_in _ _ | exact pm_cmp_in _ _ | exact pm_b8_in _ | (unfold pm_inI; split <;> omega)) (by first | (unfold pm_inI; omega) | exact pm_and_in _ _ | exact pm_shr_in _ _ | exact pm_or_in _ _ | exact pm_xor_in _ _ | exact pm_shl_in _ _ | exact pm_cmp_in _ _ | exact pm_b8_in _ | (unfold pm_inI; split <;> omega)) (fun h2 => ?_) (fun h2 => ?_)
                  · replace h2 : ¬ (y : Int) = (v : Int) := h2
                    refine g_iinc (ls' := [(2, ((2 : Nat) : Int)), (0, ((i : Int) + 1))]) lk_62_71 rfl rfl rfl ?_
                    refine g_goto (t := 44) lk_62_74 rfl ?_
                    exact nx
                  · replace h2 : ¬ (¬ (y : Int) = (v : Int)) := h2
                    omega
          have st := loop m 0 (by omega) (fun j x hj _ => by omega)
          clear loop tl
          refine g_aload_n lk_62_18 rfl ?_
          refine m_getfield (u := []) (M := K1) lk_62_19 rfl (lay1.on (by decide) rfl) (v := 1) f10' ?_
          refine g_iconst lk_62_22 ?_
          refine g_icmp (t := 36) lk_62_23 rfl (by first | (unfold pm_inI; omega) | exact pm_and_in _ _ | exact pm_shr_in _ _ | exact pm_or_in _ _ | exact pm_xor_in _ _ | exact pm_shl_in _ _ | exact pm_cmp_in _ _ | exact pm_b8_in _ | (unfold pm_inI; split <;> omega)) (by first | (unfold pm_inI; omega) | exact pm_and_in _ _ | exact pm_shr_in _ _ | exact pm_or_in _ _ | exact pm_xor_in _ _ | exact pm_shl_in _ _ | exact pm_cmp_in _ _ | exact pm_b8_in _ | (unfold pm_inI; split <;> omega)) (fun h => absurd h (show ¬ (¬ (1 : Int) = (1 : Int)) by omega)) (fun _ => ?_)
          refine g_aload_n lk_62_26 rfl ?_
          refine m_getfield (u := []) (M := K1) lk_62_27 rfl (lay1.on (by decide) rfl) (v := (v : Int)) f13 ?_
          refine g_static (Qc := _) lk_62_30 (by decide) rfl (Nat.le_of_ble_eq_true rfl) rfl rfl (Nat.le_of_ble_eq_true rfl) (Nat.le_of_ble_eq_true rfl) (Nat.zero_le _) (Nat.zero_le _) (ik) ?_
          rintro _ N1 ⟨rfl, hN1⟩
          rw [hN1]
          show Wp _ 62 33 [(2, ((2 : Nat) : Int)), (9, 0)] [(0, 0)] K1 _ _ _
          refine g_if (t := 42) lk_62_33 rfl (by first | (unfold pm_inI; omega) | exact pm_and_in _ _ | exact pm_shr_in _ _ | exact pm_or_in _ _ | exact pm_xor_in _ _ | exact pm_shl_in _ _ | exact pm_cmp_in _ _ | exact pm_b8_in _ | (unfold pm_inI; split <;> omega)) (fun _ => ?_) (fun h => absurd (show (0 : Int) = (0 : Int) by omega) h)
          refine g_iconst lk_62_42 ?_
          refine g_istore_n (ls' := [(2, ((2 : Nat) : Int)), (0, 0)]) lk_62_43 rfl rfl ?_
          exact st
        · rw [if_pos (kn.mpr g)] at ik
          have g' := g
          rw [hu] at g'
          rw [pTree_2 a' g', ← hu] at hQ
          clear kn g g'
          refine g_aload_n lk_62_18 rfl ?_
          refine m_getfield (u := []) (M := K1) lk_62_19 rfl (lay1.on (by decide) rfl) (v := 1) f10' ?_
          refine g_iconst lk_62_22 ?_
          refine g_icmp (t := 36) lk_62_23 rfl (by first | (unfold pm_inI; omega) | exact pm_and_in _ _ | exact pm_shr_in _ _ | exact pm_or_in _ _ | exact pm_xor_in _ _ | exact pm_shl_in _ _ | exact pm_cmp_in _ _ | exact pm_b8_in _ | (unfold pm_inI; split <;> omega)) (by first | (unfold pm_inI; omega) | exact pm_and_in _ _ | exact pm_shr_in _ _ | exact pm_or_in _ _ | exact pm_xor_in _ _ | exact pm_shl_in _ _ | exact pm_cmp_in _ _ | exact pm_b8_in _ | (unfold pm_inI; split <;> omega)) (fun h => absurd h (show ¬ (¬ (1 : Int) = (1 : Int)) by omega)) (fun _ => ?_)
          refine g_aload_n lk_62_26 rfl ?_
          refine m_getfield (u := []) (M := K1) lk_62_27 rfl (lay1.on (by decide) rfl) (v := (v : Int)) f13 ?_
          refine g_static (Qc := _) lk_62_30 (by decide) rfl (Nat.le_of_ble_eq_true rfl) rfl rfl (Nat.le_of_ble_eq_true rfl) (Nat.le_of_ble_eq_true rfl) (Nat.zero_le _) (Nat.zero_le _) (ik) ?_
          rintro _ N1 ⟨rfl, hN1⟩
          rw [hN1]
          show Wp _ 62 33 [(2, ((2 : Nat) : Int)), (9, 0)] [(0, 1)] K1 _ _ _
          refine g_if (t := 42) lk_62_33 rfl (by first | (unfold pm_inI; omega) | exact pm_and_in _ _ | exact pm_shr_in _ _ | exact pm_or_in _ _ | exact pm_xor_in _ _ | exact pm_shl_in _ _ | exact pm_cmp_in _ _ | exact pm_b8_in _ | (unfold pm_inI; split <;> omega)) (fun h => absurd h (show ¬ ((1 : Int) = (0 : Int)) by omega)) (fun _ => ?_)
          refine g_aload_n lk_62_36 rfl ?_
          refine g_iconst lk_62_37 ?_
          refine g_virtual (p := 2) (Qc := _) lk_62_38 rfl (Nat.le_of_ble_eq_true rfl) rfl rfl (lay1.on (by decide) rfl) (Nat.le_of_ble_eq_true rfl) (Nat.le_of_ble_eq_true rfl) (Nat.zero_le _) (Nat.zero_le _) (rf2) ?_
          rintro _ K3 ⟨rfl, lay3, re3, ft3⟩
          show Wp _ 62 41 [(2, ((2 : Nat) : Int)), (9, 0)] [(0, 0)] K3 _ _ _
          refine g_ireturn lk_62_41 (fun _ => by omega) ?_
          rw [hQ]
          exact ⟨lay3, rd1.re.te.trans re3.te, rfl, ft3⟩
      · have g' : ¬ isNm ch (lxt ch n t.2.2) := fun q => e (by rw [hu]; exact q.1)
        rw [pTree_2 a' g', ← hu] at hQ
        obtain ⟨w, hw⟩ : ∃ w, w = u.1 := ⟨_, rfl⟩
        rw [← hw] at f10 t4 e
        clear g'
        refine g_aload_n lk_62_18 rfl ?_
        refine m_getfield (u := []) (M := K1) lk_62_19 rfl (lay1.on (by decide) rfl) (v := (w : Int)) f10 ?_
        refine g_iconst lk_62_22 ?_
        refine g_icmp (t := 36) lk_62_23 rfl (by first | (unfold pm_inI; omega) | exact pm_and_in _ _ | exact pm_shr_in _ _ | exact pm_or_in _ _ | exact pm_xor_in _ _ | exact pm_shl_in _ _ | exact pm_cmp_in _ _ | exact pm_b8_in _ | (unfold pm_inI; split <;> omega)) (by first | (unfold pm_inI; omega) | exact pm_and_in _ _ | exact pm_shr_in _ _ | exact pm_or_in _ _ | exact pm_xor_in _ _ | exact pm_shl_in _ _ | exact pm_cmp_in _ _ | exact pm_b8_in _ | (unfold pm_inI; split <;> omega)) (fun h1 => ?_) (fun h1 => ?_)
        · replace h1 : ¬ (w : Int) = 1 := h1
          refine g_aload_n lk_62_36 rfl ?_
          refine g_iconst lk_62_37 ?_
          refine g_virtual (p := 2) (Qc := _) lk_62_38 rfl (Nat.le_of_ble_eq_true rfl) rfl rfl (lay1.on (by decide) rfl) (Nat.le_of_ble_eq_true rfl) (Nat.le_of_ble_eq_true rfl) (Nat.zero_le _) (Nat.zero_le _) (rf2) ?_
          rintro _ K3 ⟨rfl, lay3, re3, ft3⟩
          show Wp _ 62 41 [(2, ((2 : Nat) : Int)), (9, 0)] [(0, 0)] K3 _ _ _
          refine g_ireturn lk_62_41 (fun _ => by omega) ?_
          rw [hQ]
          exact ⟨lay3, rd1.re.te.trans re3.te, rfl, ft3⟩
        · replace h1 : ¬ (¬ (w : Int) = 1) := h1
          omega
    refine g_aload_n lk_62_0 rfl ?_
    refine m_getfield (u := []) (M := M) lk_62_1 rfl (lay.on (by decide) rfl) (v := (m : Int)) f5 ?_
    refine g_iconst lk_62_4 ?_
    refine g_icmp (t := 14) lk_62_5 rfl (by first | (unfold pm_inI; omega) | exact pm_and_in _ _ | exact pm_shr_in _ _ | exact pm_or_in _ _ | exact pm_xor_in _ _ | exact pm_shl_in _ _ | exact pm_cmp_in _ _ | exact pm_b8_in _ | (unfold pm_inI; split <;> omega)) (by first | (unfold pm_inI; omega) | exact pm_and_in _ _ | exact pm_shr_in _ _ | exact pm_or_in _ _ | exact pm_xor_in _ _ | exact pm_shl_in _ _ | exact pm_cmp_in _ _ | exact pm_b8_in _ | (unfold pm_inI; split <;> omega)) (fun h1 => ?_) (fun h1 => ?_)
    · replace h1 : (m : Int) < 4 := h1
      refine g_aload_n lk_62_14 rfl ?_
      refine g_virtual (p := 2) (Qc := _) lk_62_15 rfl (Nat.le_of_ble_eq_true rfl) rfl rfl (lay.on (by decide) rfl) (Nat.le_of_ble_eq_true rfl) (Nat.le_of_ble_eq_true rfl) (Nat.zero_le _) (Nat.zero_le _) (ad) ?_
      rintro _ K1 ⟨rfl, lay1, rd1, tk1⟩
      show Wp _ 62 18 [(2, ((2 : Nat) : Int)), (9, 0)] [] K1 _ _ _
      exact go K1 lay1 rd1 tk1
    · replace h1 : ¬ ((m : Int) < 4) := h1
      omega
