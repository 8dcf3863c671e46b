/-! ===== the model: the way of an entry ===== -/
def TrM (M : pm_M) (t : Nat) (L : List Nd) : Prop := pm_ct M 122 t = (L.length : Int) ∧ ∀ k, k < L.length → pm_ct M 123 (31 * t + k) = ((ndA L k).1 : Int) ∧ pm_ct M 124 (31 * t + k) = ((ndA L k).2.1 : Int) ∧ pm_ct M 125 (31 * t + k) = (ndA L k).2.2
def TsM (M : pm_M) (Ts : List (List Nd)) : Prop := Ts.length ≤ 4 ∧ pm_ct M 116 3 = (Ts.length : Int) ∧ ∀ t, t < Ts.length → TrM M t (Ts.getD t []) ∧ TrOK (Ts.getD t [])
theorem TsM.mf {S K : List Nat} {M N : pm_M} {Ts : List (List Nd)} (h : TsM M Ts) (k : MF S K M N) (h1 : 3 ∉ K) (h2 : 122 ∉ S) (h3 : 123 ∉ S) (h4 : 124 ∉ S) (h5 : 125 ∉ S) : TsM N Ts := by
  unfold TsM TrM at h ⊢
  rw [k.fd h1, k.ct h2 (by decide), k.ct h3 (by decide), k.ct h4 (by decide), k.ct h5 (by decide)]; exact h
/-- the way's nodes, its length, price and turns -/
def wn (L : List Nd) (r c : Nat) : Nat → Nat
  | 0 => 0
  | i + 1 => nxt L r c (wn L r c i)
def wl (L : List Nd) (r c : Nat) : Nat → Nat → Nat
  | 0, _ => 0
  | n + 1, k => if (ndA L k).1 = 0 then 0 else wl L r c n (nxt L r c k) + 1
def prK (T : Tab) (x : Nat) : Nat := if x = 1 then tA T else tB T
def wc (T : Tab) (L : List Nd) (r c : Nat) : Nat → Nat → Nat
  | 0, _ => 0
  | n + 1, k => if (ndA L k).1 = 0 then 0 else prK T (ndA L k).1 + wc T L r c n (nxt L r c k)
def tu (q x : Nat) : Nat := if q = 0 then 0 else if q = x then 0 else 1
def wt (L : List Nd) (r c : Nat) : Nat → Nat → Nat → Nat
  | 0, _, _ => 0
  | n + 1, k, q => if (ndA L k).1 = 0 then 0 else tu q (ndA L k).1 + wt L r c n (nxt L r c k) (ndA L k).1
def WyAt (M : pm_M) (L : List Nd) (r c i : Nat) : Prop := ∀ j, j < i → pm_ct M 151 j = (wn L r c j : Int) ∧ pm_ct M 152 j = (if yesAt L r c (wn L r c j) then 1 else 0)
set_option maxHeartbeats 8000000 in
theorem c_Mo_goes {d mc ms : Nat} {M : pm_M} (lay0 : Lay M) {T : Tab} (hT : TabOK T) (hM0 : MoAt M T) {L : List Nd} {dp : Nat → Nat} (hD : TrD L dp) {t : Nat} (t4 : t < 4) (hL0 : TrM M t L) {r c : Nat} (hr : r < 6) (hc : c < 6) :
    pm_E (d + 1) 247 [(2, ((116 : Nat) : Int)), (0, (t : Int)), (0, (r : Int)), (0, (c : Int))] M mc ms (fun ρ M' => ρ = some (0, (wy L r c 9 0 : Int)) ∧ Lay M' ∧ MF [151, 152] [59, 60, 61] M M' ∧ pm_ct M' 116 59 = (wl L r c 9 0 : Int) ∧ pm_ct M' 116 60 = (wc T L r c 9 0 : Int) ∧ pm_ct M' 116 61 = (wt L r c 9 0 0 : Int) ∧ WyAt M' L r c (wl L r c 9 0) ∧ pm_ct M' 151 (wl L r c 9 0) = (wy L r c 9 0 : Int)) := by
  obtain ⟨Q, hQ⟩ : ∃ Q : pm_Q, Q = (fun ρ M' => ρ = some (0, (wy L r c 9 0 : Int)) ∧ Lay M' ∧ MF [151, 152] [59, 60, 61] M M' ∧ pm_ct M' 116 59 = (wl L r c 9 0 : Int) ∧ pm_ct M' 116 60 = (wc T L r c 9 0 : Int) ∧ pm_ct M' 116 61 = (wt L r c 9 0 0 : Int) ∧ WyAt M' L r c (wl L r c 9 0) ∧ pm_ct M' 151 (wl L r c 9 0) = (wy L r c 9 0 : Int)) := ⟨_, rfl⟩
  rw [← hQ]
  have l31 := hD.2.1
  have ca := hT.2.2.2.1
  have cb := hT.2.2.2.2
  obtain ⟨b, hb⟩ : ∃ b, b = 31 * t := ⟨_, rfl⟩
  have fin : ∀ (i k ci ti : Nat) (v6 v7 : pm_V) (N : pm_M), i ≤ 9 → k < L.length → (ndA L k).1 = 0 → wy L r c 9 0 = k → wl L r c 9 0 = i → wc T L r c 9 0 = ci → wt L r c 9 0 0 = ti → Lay N → MF [151, 152] [59, 60, 61] M N → pm_ct N 116 59 = (i : Int) → pm_ct N 116 60 = (ci : Int) → pm_ct N 116 61 = (ti : Int) → WyAt N L r c i → Wp (d + 1) 247 24 [(2, ((116 : Nat) : Int)), (0, (t : Int)), (0, (r : Int)), (0, (c : Int)), (0, (b : Int)), (0, (k : Int)), v6, v7] [] N mc ms Q := by
    intro i k ci ti v6 v7 N hi hk h0 e1 e2 e3 e4 lay mf f59 f60 f61 hW
    have hLN := (hL0.2 k hk).1
    obtain ⟨j, hj⟩ : ∃ j, j = b + k := ⟨_, rfl⟩
    have ej : (b : Int) + (k : Int) = (j : Int) := by omega
    have x0 : pm_ct N 123 j = 0 := by rw [mf.ct (by decide) (by decide), hj, hb, hLN, h0]; rfl
    refine g_aload_n lk_247_24 rfl ?_
    refine g_getfield lk_247_25 rfl (lay.on (by decide) rfl) (v := ((123 : Nat) : Int)) (lay.rf rfl) ?_
    refine g_iload lk_247_28 rfl ?_
    refine g_iload lk_247_30 rfl ?_
    refine g_iadd lk_247_32 ?_
    refine g_top (z := ((b : Int) + (k : Int))) (z' := (j : Int)) (ej) ?_
    refine m_iaload (u := []) (M := N) lk_247_33 (lay.ay (by decide) rfl) (by omega) (j := j) (by omega) (v := 0) x0 ?_
    refine g_if (t := 203) lk_247_34 rfl (by first | (unfold pm_inI; omega) | exact pm_and_in _ _ | exact pm_shr_in _ _ | exact pm_or_in _ _ | exact pm_xor_in _ _ | exact pm_shl_in _ _ | exact pm_cmp_in _ _ | exact pm_b8_in _ | (unfold pm_inI; split <;> omega)) (fun _ => ?_) (fun h => absurd (show (0 : Int) = (0 : Int) by omega) h)
    refine g_aload_n lk_247_203 rfl ?_
    refine g_getfield lk_247_204 rfl (lay.on (by decide) rfl) (v := ((151 : Nat) : Int)) (lay.rf rfl) ?_
    refine g_aload_n lk_247_207 rfl ?_
    refine m_getfield (u := []) (M := N) lk_247_208 rfl (lay.on (by decide) rfl) (v := (i : Int)) f59 ?_
    refine g_iload lk_247_211 rfl ?_
    have lay1 : Lay (Mu [(151, pm_upd (pm_ct N 151) i (k : Int))] N) := lay.muA (l := []) (a := 151) (f := pm_upd (pm_ct N 151) i (k : Int)) rfl rfl
    refine m_iastore (u := []) (u' := [(151, pm_upd (pm_ct N 151) i (k : Int))]) (M := N) lk_247_213 (lay.ay (by decide) rfl) (by omega) (j := i) (by omega) rfl ?_
    refine g_iload lk_247_214 rfl ?_
    refine g_ireturn lk_247_216 (fun h => absurd h (by decide)) ?_
    rw [hQ, e1, e2, e3, e4]
    have fM : Fr [151] N (Mu [(151, pm_upd (pm_ct N 151) i (k : Int))] N) := Fr.mu _ _ rfl
    refine ⟨rfl, lay1, mf.trans ⟨fM.1, fM.2.1, fM.2.2.1, fun a ha _ => fM.ct (fun q => ha (by simp at q; simp [q])), fun j _ => by rw [fM.ct (by decide)]⟩, by rw [fM.ct (by decide)]; exact f59, by rw [fM.ct (by decide)]; exact f60, by rw [fM.ct (by decide)]; exact f61, fun m hm => ⟨?_, ?_⟩, ?_⟩
    · rw [Mu_ct]; show pm_upd (pm_ct N 151) i _ m = _; rw [pm_upd_ne (by omega)]; exact (hW m hm).1
    · rw [fM.ct (by decide)]; exact (hW m hm).2
    · rw [Mu_ct]; show pm_upd (pm_ct N 151) i _ i = _; rw [pm_upd_eq]
  have loop : ∀ (n i k q ci ti : Nat) (v6 v7 : pm_V) (N : pm_M), i + n = 9 → k < L.length → dp k = i → k = wn L r c i → ci ≤ 9 * i → ti ≤ i → (i = 0 ∧ q = 0 ∨ 1 ≤ i ∧ q = (ndA L (wn L r c (i - 1))).1 ∧ q ≠ 0 ∧ wn L r c (i - 1) < L.length) → wy L r c 9 0 = wy L r c n k → wl L r c 9 0 = wl L r c n k + i → wc T L r c 9 0 = ci + wc T L r c n k → wt L r c 9 0 0 = ti + wt L r c n k q → Lay N → MF [151, 152] [59, 60, 61] M N → pm_ct N 116 59 = (i : Int) → pm_ct N 116 60 = (ci : Int) → pm_ct N 116 61 = (ti : Int) → WyAt N L r c i → Wp (d + 1) 247 24 [(2, ((116 : Nat) : Int)), (0, (t : Int)), (0, (r : Int)), (0, (c : Int)), (0, (b : Int)), (0, (k : Int)), v6, v7] [] N mc ms Q := by
    intro n
    induction n with
    | zero =>
      intro i k q ci ti v6 v7 N hi hk hdp ekn hci hti hq e1 e2 e3 e4 lay mf f59 f60 f61 hW
      obtain ⟨_, _, _, a4⟩ := hD.2.2.2 k hk
      have h0 : (ndA L k).1 = 0 := Classical.byContradiction (fun e => by have := (a4 e).1; omega)
      exact fin i k ci ti v6 v7 N (by omega) hk h0 e1 (by rw [e2]; exact Nat.zero_add _) e3 e4 lay mf f59 f60 f61 hW
    | succ n ih =>
      intro i k q ci ti v6 v7 N hi hk hdp ekn hci hti hq e1 e2 e3 e4 lay mf f59 f60 f61 hW
      replace e1 : wy L r c 9 0 = if (ndA L k).1 = 0 then k else wy L r c n (nxt L r c k) := e1
      replace e2 : wl L r c 9 0 = (if (ndA L k).1 = 0 then 0 else wl L r c n (nxt L r c k) + 1) + i := e2
      replace e3 : wc T L r c 9 0 = ci + (if (ndA L k).1 = 0 then 0 else prK T (ndA L k).1 + wc T L r c n (nxt L r c k)) := e3
      replace e4 : wt L r c 9 0 0 = ti + (if (ndA L k).1 = 0 then 0 else tu q (ndA L k).1 + wt L r c n (nxt L r c k) (ndA L k).1) := e4
      by_cases h0 : (ndA L k).1 = 0
      · rw [if_pos h0] at e1 e2 e3 e4
        exact fin i k ci ti v6 v7 N (by omega) hk h0 e1 (by rw [e2]; exact Nat.zero_add _) e3 e4 lay mf f59 f60 f61 hW
      rw [if_neg h0] at e1 e2 e3 e4
      obtain ⟨a1, a2, _, a4⟩ := hD.2.2.2 k hk
      obtain ⟨g1, g2, g3, g4, _, _⟩ := a4 h0
      obtain ⟨n1, n2, n3⟩ := nxt_ok hD (r := r) (c := c) hk h0
      obtain ⟨y1, y2, y3⟩ := hL0.2 k hk
      rw [← hb] at y1 y2 y3
      have ey : yesAt L r c k = (ndA L k).2.1.testBit (if (ndA L k).1 = 1 then r else c) := rfl
      have em : nxt L r c k = if yesAt L r c k then k + 1 else (ndA L k).2.2.toNat := rfl
      obtain ⟨x, hx⟩ : ∃ x, x = (ndA L k).1 := ⟨_, rfl⟩
      obtain ⟨s, hs⟩ : ∃ s, s = (ndA L k).2.1 := ⟨_, rfl⟩
      obtain ⟨z, hz⟩ : ∃ z, z = (ndA L k).2.2 := ⟨_, rfl⟩
      rw [← hx] at h0 a1 e3 e4 y1 ey
      rw [← hs] at a2 y2 ey
      rw [← hz] at g3 g4 y3 em
      obtain ⟨m, hm⟩ : ∃ m, m = nxt L r c k := ⟨_, rfl⟩
      rw [← hm] at e1 e2 e3 e4 n1 n2 n3 em
      obtain ⟨j, hj⟩ : ∃ j, j = b + k := ⟨_, rfl⟩
      have ej : (b : Int) + (k : Int) = (j : Int) := by omega
      rw [← hj] at y1 y2 y3
      have pk9 : prK T x ≤ 9 := by unfold prK; split <;> omega
      have cx : pm_ct M 120 x = (prK T x : Int) := by
        rcases (by omega : x = 1 ∨ x = 2) with e | e
        · rw [e]; exact hM0.2.2.1
        · rw [e]; exact hM0.2.2.2.1
      have k120 : ∀ (K : pm_M) (t' : Nat) (yv : Int), (yv = 1 ∧ yesAt L r c k = true ∨ yv = 0 ∧ ¬ yesAt L r c k = true) → t' = ti + tu q x → t' ≤ i + 1 → Lay K → MF [151, 152] [59, 60, 61] M K → pm_ct K 116 59 = (i : Int) → pm_ct K 116 60 = (ci : Int) → pm_ct K 116 61 = (t' : Int) → WyAt K L r c i → Wp (d + 1) 247 120 [(2, ((116 : Nat) : Int)), (0, (t : Int)), (0, (r : Int)), (0, (c : Int)), (0, (b : Int)), (0, (k : Int)), (0, (x : Int)), (0, yv)] [] K mc ms Q := by
        intro K t' yv hy ht' ht2 layK mfK k59 k60 k61 hWK
        have go : ∀ (P : pm_M) (v6 v7 : pm_V), Lay P → MF [151, 152] [59, 60, 61] M P → pm_ct P 116 59 = ((i + 1 : Nat) : Int) → pm_ct P 116 60 = ((ci + prK T x : Nat) : Int) → pm_ct P 116 61 = (t' : Int) → WyAt P L r c (i + 1) → Wp (d + 1) 247 24 [(2, ((116 : Nat) : Int)), (0, (t : Int)), (0, (r : Int)), (0, (c : Int)), (0, (b : Int)), (0, (m : Int)), v6, v7] [] P mc ms Q := by
          intro P v6 v7 lP mP p59 p60 p61 hWP
          refine ih (i + 1) m x (ci + prK T x) t' v6 v7 P (by omega) n2 (by omega) (by show m = nxt L r c (wn L r c i); rw [← ekn]; exact hm) (by omega) ht2 (Or.inr ⟨by omega, by rw [Nat.add_sub_cancel, ← ekn]; exact hx, h0, by rw [Nat.add_sub_cancel, ← ekn]; exact hk⟩) e1 (by omega) (by omega) (by omega) lP mP p59 p60 p61 hWP
        have wyp : ∀ (P : pm_M) (w : Int), pm_ct P 151 = pm_upd (pm_ct K 151) i (k : Int) → pm_ct P 152 = pm_upd (pm_ct K 152) i w → w = (if yesAt L r c k then 1 else 0) → WyAt P L r c (i + 1) := fun P w q1 q2 q3 a ha => by
          rw [q1, q2]
          by_cases e : a = i
          · rw [e, pm_upd_eq, pm_upd_eq, ← ekn]; exact ⟨rfl, q3⟩
          · rw [pm_upd_ne e, pm_upd_ne e]; exact hWK a (by omega)
        have cK : pm_ct K 120 x = (prK T x : Int) := by rw [mfK.ct (by decide) (by decide)]; exact cx
        have zK : pm_ct K 125 j = z := by rw [mfK.ct (by decide) (by decide)]; exact y3
        have i56 : ∀ (z1 z2 : Int) (a : Nat), a ∉ [59, 60, 61] → pm_upd (pm_upd (pm_ct K 116) 59 z1) 60 z2 a = pm_ct K 116 a := fun z1 z2 a ha => by
          simp at ha
          rw [pm_upd_ne (by omega), pm_upd_ne (by omega)]
        clear hq
        rcases hy with ⟨rfl, hy⟩ | ⟨rfl, hy⟩
        · rw [if_pos hy] at em
          refine g_aload_n lk_247_120 rfl ?_
          refine g_getfield lk_247_121 rfl (layK.on (by decide) rfl) (v := ((151 : Nat) : Int)) (layK.rf rfl) ?_
          refine g_aload_n lk_247_124 rfl ?_
          refine m_getfield (u := []) (M := K) lk_247_125 rfl (layK.on (by decide) rfl) (v := (i : Int)) k59 ?_
          refine g_iload lk_247_128 rfl ?_
          have lay1 : Lay (Mu [(151, pm_upd (pm_ct K 151) i (k : Int))] K) := layK.muA (l := []) (a := 151) (f := pm_upd (pm_ct K 151) i (k : Int)) rfl rfl
          refine m_iastore (u := []) (u' := [(151, pm_upd (pm_ct K 151) i (k : Int))]) (M := K) lk_247_130 (layK.ay (by decide) rfl) (by omega) (j := i) (by omega) rfl ?_
          refine g_aload_n lk_247_131 rfl ?_
          refine g_getfield lk_247_132 rfl (lay1.on (by decide) rfl) (v := ((152 : Nat) : Int)) (lay1.rf rfl) ?_
          refine g_aload_n lk_247_135 rfl ?_
          refine m_getfield (u := [(151, pm_upd (pm_ct K 151) i (k : Int))]) (M := K) lk_247_136 rfl (lay1.on (by decide) rfl) (v := (i : Int)) k59 ?_
          refine g_iload lk_247_139 rfl ?_
          refine g_if (t := 148) lk_247_141 rfl (by first | (unfold pm_inI; omega) | exact pm_and_in _ _ | exact pm_shr_in _ _ | exact pm_or_in _ _ | exact pm_xor_in _ _ | exact pm_shl_in _ _ | exact pm_cmp_in _ _ | exact pm_b8_in _ | (unfold pm_inI; split <;> omega)) (fun h => absurd h (show ¬ ((1 : Int) = (0 : Int)) by omega)) (fun _ => ?_)
          refine g_iconst lk_247_144 ?_
          refine g_goto (t := 149) lk_247_145 rfl ?_
          have lay2 : Lay (Mu [(151, pm_upd (pm_ct K 151) i (k : Int)), (152, pm_upd (pm_ct K 152) i 1)] K) := lay1.muA (l := [(151, pm_upd (pm_ct K 151) i (k : Int))]) (a := 152) (f := pm_upd (pm_ct K 152) i 1) rfl rfl
          refine m_iastore (u := [(151, pm_upd (pm_ct K 151) i (k : Int))]) (u' := [(151, pm_upd (pm_ct K 151) i (k : Int)), (152, pm_upd (pm_ct K 152) i 1)]) (M := K) lk_247_149 (lay1.ay (by decide) rfl) (by omega) (j := i) (by omega) rfl ?_
          refine g_aload_n lk_247_150 rfl ?_
          refine g_dup lk_247_151 rfl ?_
          refine m_getfield (u := [(151, pm_upd (pm_ct K 151) i (k : Int)), (152, pm_upd (pm_ct K 152) i 1)]) (M := K) lk_247_152 rfl (lay2.on (by decide) rfl) (v := (i : Int)) k59 ?_
          refine g_iconst lk_247_155 ?_
          refine g_iadd lk_247_156 ?_
          have lay3 : Lay (Mu [(151, pm_upd (pm_ct K 151) i (k : Int)), (152, pm_upd (pm_ct K 152) i 1), (116, pm_upd (pm_ct K 116) 59 ((i : Int) + 1))] K) := lay2.muF (l := [(151, pm_upd (pm_ct K 151) i (k : Int)), (152, pm_upd (pm_ct K 152) i 1)]) (a := 116) (k := 59) (z := ((i : Int) + 1)) rfl rfl
          refine m_putfield (u := [(151, pm_upd (pm_ct K 151) i (k : Int)), (152, pm_upd (pm_ct K 152) i 1)]) (u' := [(151, pm_upd (pm_ct K 151) i (k : Int)), (152, pm_upd (pm_ct K 152) i 1), (116, pm_upd (pm_ct K 116) 59 ((i : Int) + 1))]) (M := K) lk_247_157 rfl (lay2.on (by decide) rfl) (fun h => absurd h (by decide)) rfl ?_
          refine g_aload_n lk_247_160 rfl ?_
          refine g_dup lk_247_161 rfl ?_
          refine m_getfield (u := [(151, pm_upd (pm_ct K 151) i (k : Int)), (152, pm_upd (pm_ct K 152) i 1), (116, pm_upd (pm_ct K 116) 59 ((i : Int) + 1))]) (M := K) lk_247_162 rfl (lay3.on (by decide) rfl) (v := (ci : Int)) k60 ?_
          refine g_aload_n lk_247_165 rfl ?_
          refine g_getfield lk_247_166 rfl (lay3.on (by decide) rfl) (v := ((120 : Nat) : Int)) (lay3.rf rfl) ?_
          refine g_iload lk_247_169 rfl ?_
          refine m_iaload (u := [(151, pm_upd (pm_ct K 151) i (k : Int)), (152, pm_upd (pm_ct K 152) i 1), (116, pm_upd (pm_ct K 116) 59 ((i : Int) + 1))]) (M := K) lk_247_171 (lay3.ay (by decide) rfl) (by omega) (j := x) (by omega) (v := (prK T x : Int)) cK ?_
          refine g_iadd lk_247_172 ?_
          have lay4 : Lay (Mu [(151, pm_upd (pm_ct K 151) i (k : Int)), (152, pm_upd (pm_ct K 152) i 1), (116, pm_upd (pm_upd (pm_ct K 116) 59 ((i : Int) + 1)) 60 ((ci : Int) + (prK T x : Int)))] K) := lay3.muF (l := [(151, pm_upd (pm_ct K 151) i (k : Int)), (152, pm_upd (pm_ct K 152) i 1), (116, pm_upd (pm_ct K 116) 59 ((i : Int) + 1))]) (a := 116) (k := 60) (z := ((ci : Int) + (prK T x : Int))) rfl rfl
          refine m_putfield (u := [(151, pm_upd (pm_ct K 151) i (k : Int)), (152, pm_upd (pm_ct K 152) i 1), (116, pm_upd (pm_ct K 116) 59 ((i : Int) + 1))]) (u' := [(151, pm_upd (pm_ct K 151) i (k : Int)), (152, pm_upd (pm_ct K 152) i 1), (116, pm_upd (pm_upd (pm_ct K 116) 59 ((i : Int) + 1)) 60 ((ci : Int) + (prK T x : Int)))]) (M := K) lk_247_173 rfl (lay3.on (by decide) rfl) (fun h => absurd h (by decide)) rfl ?_
          refine g_iload lk_247_176 rfl ?_
          refine g_if (t := 188) lk_247_178 rfl (by first | (unfold pm_inI; omega) | exact pm_and_in _ _ | exact pm_shr_in _ _ | exact pm_or_in _ _ | exact pm_xor_in _ _ | exact pm_shl_in _ _ | exact pm_cmp_in _ _ | exact pm_b8_in _ | (unfold pm_inI; split <;> omega)) (fun h => absurd h (show ¬ ((1 : Int) = (0 : Int)) by omega)) (fun _ => ?_)
          refine g_iload lk_247_181 rfl ?_
          refine g_iconst lk_247_183 ?_
          refine g_iadd lk_247_184 ?_
          refine g_goto (t := 198) lk_247_185 rfl ?_
          refine g_istore (ls' := [(2, ((116 : Nat) : Int)), (0, (t : Int)), (0, (r : Int)), (0, (c : Int)), (0, (b : Int)), (0, ((k : Int) + 1)), (0, (x : Int)), (0, 1)]) lk_247_198 rfl rfl ?_
          refine g_loc (ls := [(2, ((116 : Nat) : Int)), (0, (t : Int)), (0, (r : Int)), (0, (c : Int)), (0, (b : Int)), (0, ((k : Int) + 1)), (0, (x : Int)), (0, 1)]) (ls' := [(2, ((116 : Nat) : Int)), (0, (t : Int)), (0, (r : Int)), (0, (c : Int)), (0, (b : Int)), (0, (m : Int)), (0, (x : Int)), (0, 1)]) (by rw [show ((k : Int) + 1) = (m : Int) from ((by omega))]) ?_
          refine g_goto (t := 24) lk_247_200 rfl ?_
          refine go _ _ _ lay4 (mfK.trans (MF.mu _ _ rfl (i56 _ _))) (by rw [Mu_ct]; rfl) (by rw [Mu_ct]; rfl) (by rw [Mu_ct]; exact k61) (wyp _ 1 (by rw [Mu_ct]; rfl) (by rw [Mu_ct]; rfl) (by rw [if_pos hy]))
        · rw [if_neg hy] at em
          have zm : z = (m : Int) := by omega
          rw [zm] at zK
          refine g_aload_n lk_247_120 rfl ?_
          refine g_getfield lk_247_121 rfl (layK.on (by decide) rfl) (v := ((151 : Nat) : Int)) (layK.rf rfl) ?_
          refine g_aload_n lk_247_124 rfl ?_
          refine m_getfield (u := []) (M := K) lk_247_125 rfl (layK.on (by decide) rfl) (v := (i : Int)) k59 ?_
          refine g_iload lk_247_128 rfl ?_
          have lay1 : Lay (Mu [(151, pm_upd (pm_ct K 151) i (k : Int))] K) := layK.muA (l := []) (a := 151) (f := pm_upd (pm_ct K 151) i (k : Int)) rfl rfl
          refine m_iastore (u := []) (u' := [(151, pm_upd (pm_ct K 151) i (k : Int))]) (M := K) lk_247_130 (layK.ay (by decide) rfl) (by omega) (j := i) (by omega) rfl ?_
          refine g_aload_n lk_247_131 rfl ?_
          refine g_getfield lk_247_132 rfl (lay1.on (by decide) rfl) (v := ((152 : Nat) : Int)) (lay1.rf rfl) ?_
          refine g_aload_n lk_247_135 rfl ?_
          refine m_getfield (u := [(151, pm_upd (pm_ct K 151) i (k : Int))]) (M := K) lk_247_136 rfl (lay1.on (by decide) rfl) (v := (i : Int)) k59 ?_
          refine g_iload lk_247_139 rfl ?_
          refine g_if (t := 148) lk_247_141 rfl (by first | (unfold pm_inI; omega) | exact pm_and_in _ _ | exact pm_shr_in _ _ | exact pm_or_in _ _ | exact pm_xor_in _ _ | exact pm_shl_in _ _ | exact pm_cmp_in _ _ | exact pm_b8_in _ | (unfold pm_inI; split <;> omega)) (fun _ => ?_) (fun h => absurd (show (0 : Int) = (0 : Int) by omega) h)
          refine g_iconst lk_247_148 ?_
          have lay2 : Lay (Mu [(151, pm_upd (pm_ct K 151) i (k : Int)), (152, pm_upd (pm_ct K 152) i 0)] K) := lay1.muA (l := [(151, pm_upd (pm_ct K 151) i (k : Int))]) (a := 152) (f := pm_upd (pm_ct K 152) i 0) rfl rfl
          refine m_iastore (u := [(151, pm_upd (pm_ct K 151) i (k : Int))]) (u' := [(151, pm_upd (pm_ct K 151) i (k : Int)), (152, pm_upd (pm_ct K 152) i 0)]) (M := K) lk_247_149 (lay1.ay (by decide) rfl) (by omega) (j := i) (by omega) rfl ?_
          refine g_aload_n lk_247_150 rfl ?_
          refine g_dup lk_247_151 rfl ?_
          refine m_getfield (u := [(151, pm_upd (pm_ct K 151) i (k : Int)), (152, pm_upd (pm_ct K 152) i 0)]) (M := K) lk_247_152 rfl (lay2.on (by decide) rfl) (v := (i : Int)) k59 ?_
          refine g_iconst lk_247_155 ?_
          refine g_iadd lk_247_156 ?_
          have lay3 : Lay (Mu [(151, pm_upd (pm_ct K 151) i (k : Int)), (152, pm_upd (pm_ct K 152) i 0), (116, pm_upd (pm_ct K 116) 59 ((i : Int) + 1))] K) := lay2.muF (l := [(151, pm_upd (pm_ct K 151) i (k : Int)), (152, pm_upd (pm_ct K 152) i 0)]) (a := 116) (k := 59) (z := ((i : Int) + 1)) rfl rfl
          refine m_putfield (u := [(151, pm_upd (pm_ct K 151) i (k : Int)), (152, pm_upd (pm_ct K 152) i 0)]) (u' := [(151, pm_upd (pm_ct K 151) i (k : Int)), (152, pm_upd (pm_ct K 152) i 0), (116, pm_upd (pm_ct K 116) 59 ((i : Int) + 1))]) (M := K) lk_247_157 rfl (lay2.on (by decide) rfl) (fun h => absurd h (by decide)) rfl ?_
          refine g_aload_n lk_247_160 rfl ?_
          refine g_dup lk_247_161 rfl ?_
          refine m_getfield (u := [(151, pm_upd (pm_ct K 151) i (k : Int)), (152, pm_upd (pm_ct K 152) i 0), (116, pm_upd (pm_ct K 116) 59 ((i : Int) + 1))]) (M := K) lk_247_162 rfl (lay3.on (by decide) rfl) (v := (ci : Int)) k60 ?_
          refine g_aload_n lk_247_165 rfl ?_
          refine g_getfield lk_247_166 rfl (lay3.on (by decide) rfl) (v := ((120 : Nat) : Int)) (lay3.rf rfl) ?_
          refine g_iload lk_247_169 rfl ?_
          refine m_iaload (u := [(151, pm_upd (pm_ct K 151) i (k : Int)), (152, pm_upd (pm_ct K 152) i 0), (116, pm_upd (pm_ct K 116) 59 ((i : Int) + 1))]) (M := K) lk_247_171 (lay3.ay (by decide) rfl) (by omega) (j := x) (by omega) (v := (prK T x : Int)) cK ?_
          refine g_iadd lk_247_172 ?_
          have lay4 : Lay (Mu [(151, pm_upd (pm_ct K 151) i (k : Int)), (152, pm_upd (pm_ct K 152) i 0), (116, pm_upd (pm_upd (pm_ct K 116) 59 ((i : Int) + 1)) 60 ((ci : Int) + (prK T x : Int)))] K) := lay3.muF (l := [(151, pm_upd (pm_ct K 151) i (k : Int)), (152, pm_upd (pm_ct K 152) i 0), (116, pm_upd (pm_ct K 116) 59 ((i : Int) + 1))]) (a := 116) (k := 60) (z := ((ci : Int) + (prK T x : Int))) rfl rfl
          refine m_putfield (u := [(151, pm_upd (pm_ct K 151) i (k : Int)), (152, pm_upd (pm_ct K 152) i 0), (116, pm_upd (pm_ct K 116) 59 ((i : Int) + 1))]) (u' := [(151, pm_upd (pm_ct K 151) i (k : Int)), (152, pm_upd (pm_ct K 152) i 0), (116, pm_upd (pm_upd (pm_ct K 116) 59 ((i : Int) + 1)) 60 ((ci : Int) + (prK T x : Int)))]) (M := K) lk_247_173 rfl (lay3.on (by decide) rfl) (fun h => absurd h (by decide)) rfl ?_
          refine g_iload lk_247_176 rfl ?_
          refine g_if (t := 188) lk_247_178 rfl (by first | (unfold pm_inI; omega) | exact pm_and_in _ _ | exact pm_shr_in _ _ | exact pm_or_in _ _ | exact pm_xor_in _ _ | exact pm_shl_in _ _ | exact pm_cmp_in _ _ | exact pm_b8_in _ | (unfold pm_inI; split <;> omega)) (fun _ => ?_) (fun h => absurd (show (0 : Int) = (0 : Int) by omega) h)
          refine g_aload_n lk_247_188 rfl ?_
          refine g_getfield lk_247_189 rfl (lay4.on (by decide) rfl) (v := ((125 : Nat) : Int)) (lay4.rf rfl) ?_
          refine g_iload lk_247_192 rfl ?_
          refine g_iload lk_247_194 rfl ?_
          refine g_iadd lk_247_196 ?_
          refine g_top (z := ((b : Int) + (k : Int))) (z' := (j : Int)) (ej) ?_
          refine m_iaload (u := [(151, pm_upd (pm_ct K 151) i (k : Int)), (152, pm_upd (pm_ct K 152) i 0), (116, pm_upd (pm_upd (pm_ct K 116) 59 ((i : Int) + 1)) 60 ((ci : Int) + (prK T x : Int)))]) (M := K) lk_247_197 (lay4.ay (by decide) rfl) (by omega) (j := j) (by omega) (v := (m : Int)) zK ?_
          refine g_istore (ls' := [(2, ((116 : Nat) : Int)), (0, (t : Int)), (0, (r : Int)), (0, (c : Int)), (0, (b : Int)), (0, (m : Int)), (0, (x : Int)), (0, 0)]) lk_247_198 rfl rfl ?_
          refine g_goto (t := 24) lk_247_200 rfl ?_
          refine go _ _ _ lay4 (mfK.trans (MF.mu _ _ rfl (i56 _ _))) (by rw [Mu_ct]; rfl) (by rw [Mu_ct]; rfl) (by rw [Mu_ct]; exact k61) (wyp _ 0 (by rw [Mu_ct]; rfl) (by rw [Mu_ct]; rfl) (by rw [if_neg hy]))
      obtain ⟨yv, hyv⟩ : ∃ yv : Int, yv = if yesAt L r c k then 1 else 0 := ⟨_, rfl⟩
      have hy : yv = 1 ∧ yesAt L r c k = true ∨ yv = 0 ∧ ¬ yesAt L r c k = true := by
        by_cases e : yesAt L r c k = true
        · exact Or.inl ⟨by rw [hyv, if_pos e], e⟩
        · exact Or.inr ⟨by rw [hyv, if_neg e], e⟩
      have i61 : ∀ (z1 : Int) (a : Nat), a ∉ [59, 60, 61] → pm_upd (pm_ct N 116) 61 z1 a = pm_ct N 116 a := fun z1 a ha => by
        simp at ha
        rw [pm_upd_ne (by omega)]
      have fin2 : ∀ (tv : Int) (t' : Nat), tv = (t' : Int) → t' = ti + tu q x → Lay (Mu [(116, pm_upd (pm_ct N 116) 61 tv)] N) → Wp (d + 1) 247 120 [(2, ((116 : Nat) : Int)), (0, (t : Int)), (0, (r : Int)), (0, (c : Int)), (0, (b : Int)), (0, (k : Int)), (0, (x : Int)), (0, yv)] [] (Mu [(116, pm_upd (pm_ct N 116) 61 tv)] N) mc ms Q := by
        intro tv t' q1 q2 q3
        have tle : tu q x ≤ 1 := by unfold tu; split; omega; split <;> omega
        refine k120 _ t' yv hy q2 (by omega) q3 (mf.trans (MF.mu _ _ rfl (i61 _))) ?_ ?_ ?_ (fun a ha => ⟨by rw [Mu_ct]; exact (hW a ha).1, by rw [Mu_ct]; exact (hW a ha).2⟩)
        · rw [Mu_ct]; show pm_upd (pm_ct N 116) 61 tv 59 = _; rw [pm_upd_ne (by omega)]; exact f59
        · rw [Mu_ct]; show pm_upd (pm_ct N 116) 61 tv 60 = _; rw [pm_upd_ne (by omega)]; exact f60
        · rw [Mu_ct]; show pm_upd (pm_ct N 116) 61 tv 61 = _; rw [pm_upd_eq]; exact q1
      have y2N : pm_ct N 124 j = (s : Int) := by rw [mf.ct (by decide) (by decide)]; exact y2
      rcases (by omega : x = 1 ∨ x = 2) with ex | ex
      · rw [ex, if_pos rfl] at ey
        have y1N : pm_ct N 123 j = 1 := by rw [mf.ct (by decide) (by decide), y1, ex]; rfl
        have io : ∀ P : pm_M, pm_E d 168 [(0, (s : Int)), (0, (r : Int))] P 0 0 (fun ρ M' => ρ = some (0, yv) ∧ M' = P) := fun P => by
          have := c_Mo_isOf (d := d) (mc := 0) (ms := 0) (M := P) (m := r) (s := s) (by omega) (by omega)
          rw [← ey, ← hyv] at this
          exact this
        have f2 := fin2
        rw [ex] at f2
        rcases hq with ⟨i0, q0⟩ | ⟨i1, hq1, hq2, hq3⟩
        · rw [i0] at f59
          have tz : tu q 1 = 0 := by unfold tu; rw [if_pos q0]
          clear ih k120
          refine g_aload_n lk_247_24 rfl ?_
          refine g_getfield lk_247_25 rfl (lay.on (by decide) rfl) (v := ((123 : Nat) : Int)) (lay.rf rfl) ?_
          refine g_iload lk_247_28 rfl ?_
          refine g_iload lk_247_30 rfl ?_
          refine g_iadd lk_247_32 ?_
          refine g_top (z := ((b : Int) + (k : Int))) (z' := (j : Int)) (ej) ?_
          refine m_iaload (u := []) (M := N) lk_247_33 (lay.ay (by decide) rfl) (by omega) (j := j) (by omega) (v := 1) y1N ?_
          refine g_if (t := 203) lk_247_34 rfl (by first | (unfold pm_inI; omega) | exact pm_and_in _ _ | exact pm_shr_in _ _ | exact pm_or_in _ _ | exact pm_xor_in _ _ | exact pm_shl_in _ _ | exact pm_cmp_in _ _ | exact pm_b8_in _ | (unfold pm_inI; split <;> omega)) (fun h => absurd h (show ¬ ((1 : Int) = (0 : Int)) by omega)) (fun _ => ?_)
          refine g_aload_n lk_247_37 rfl ?_
          refine g_getfield lk_247_38 rfl (lay.on (by decide) rfl) (v := ((123 : Nat) : Int)) (lay.rf rfl) ?_
          refine g_iload lk_247_41 rfl ?_
          refine g_iload lk_247_43 rfl ?_
          refine g_iadd lk_247_45 ?_
          refine g_top (z := ((b : Int) + (k : Int))) (z' := (j : Int)) (ej) ?_
          refine m_iaload (u := []) (M := N) lk_247_46 (lay.ay (by decide) rfl) (by omega) (j := j) (by omega) (v := 1) y1N ?_
          refine g_istore (ls' := [(2, ((116 : Nat) : Int)), (0, (t : Int)), (0, (r : Int)), (0, (c : Int)), (0, (b : Int)), (0, (k : Int)), (0, 1), v7]) lk_247_47 rfl rfl ?_
          refine g_aload_n lk_247_49 rfl ?_
          refine g_getfield lk_247_50 rfl (lay.on (by decide) rfl) (v := ((124 : Nat) : Int)) (lay.rf rfl) ?_
          refine g_iload lk_247_53 rfl ?_
          refine g_iload lk_247_55 rfl ?_
          refine g_iadd lk_247_57 ?_
          refine g_top (z := ((b : Int) + (k : Int))) (z' := (j : Int)) (ej) ?_
          refine m_iaload (u := []) (M := N) lk_247_58 (lay.ay (by decide) rfl) (by omega) (j := j) (by omega) (v := (s : Int)) y2N ?_
          refine g_iload lk_247_59 rfl ?_
          refine g_iconst lk_247_61 ?_
          refine g_icmp (t := 69) lk_247_62 rfl (by first | (unfold pm_inI; omega) | exact pm_and_in _ _ | exact pm_shr_in _ _ | exact pm_or_in _ _ | exact pm_xor_in _ _ | exact pm_shl_in _ _ | exact pm_cmp_in _ _ | exact pm_b8_in _ | (unfold pm_inI; split <;> omega)) (by first | (unfold pm_inI; omega) | exact pm_and_in _ _ | exact pm_shr_in _ _ | exact pm_or_in _ _ | exact pm_xor_in _ _ | exact pm_shl_in _ _ | exact pm_cmp_in _ _ | exact pm_b8_in _ | (unfold pm_inI; split <;> omega)) (fun h => absurd h (show ¬ (¬ (1 : Int) = (1 : Int)) by omega)) (fun _ => ?_)
          refine g_iload_n lk_247_65 rfl ?_
          refine g_goto (t := 70) lk_247_66 rfl ?_
          refine g_static (Qc := _) lk_247_70 (by decide) rfl (Nat.le_of_ble_eq_true rfl) rfl rfl (Nat.le_of_ble_eq_true rfl) (Nat.le_of_ble_eq_true rfl) (Nat.zero_le _) (Nat.zero_le _) (io _) ?_
          rintro _ N1 ⟨rfl, hN1⟩
          rw [hN1]
          show Wp _ 247 73 [(2, ((116 : Nat) : Int)), (0, (t : Int)), (0, (r : Int)), (0, (c : Int)), (0, (b : Int)), (0, (k : Int)), (0, 1), v7] [(0, yv)] N _ _ _
          refine g_istore (ls' := [(2, ((116 : Nat) : Int)), (0, (t : Int)), (0, (r : Int)), (0, (c : Int)), (0, (b : Int)), (0, (k : Int)), (0, 1), (0, yv)]) lk_247_73 rfl rfl ?_
          refine g_aload_n lk_247_75 rfl ?_
          refine g_dup lk_247_76 rfl ?_
          refine m_getfield (u := []) (M := N) lk_247_77 rfl (lay.on (by decide) rfl) (v := (ti : Int)) f61 ?_
          refine g_aload_n lk_247_80 rfl ?_
          refine m_getfield (u := []) (M := N) lk_247_81 rfl (lay.on (by decide) rfl) (v := 0) f59 ?_
          refine g_if (t := 115) lk_247_84 rfl (by first | (unfold pm_inI; omega) | exact pm_and_in _ _ | exact pm_shr_in _ _ | exact pm_or_in _ _ | exact pm_xor_in _ _ | exact pm_shl_in _ _ | exact pm_cmp_in _ _ | exact pm_b8_in _ | (unfold pm_inI; split <;> omega)) (fun _ => ?_) (fun h => absurd (show (0 : Int) ≤ (0 : Int) by omega) h)
          refine g_iconst lk_247_115 ?_
          refine g_iadd lk_247_116 ?_
          have lay2 : Lay (Mu [(116, pm_upd (pm_ct N 116) 61 ((ti : Int) + 0))] N) := lay.muF (l := []) (a := 116) (k := 61) (z := ((ti : Int) + 0)) rfl rfl
          refine m_putfield (u := []) (u' := [(116, pm_upd (pm_ct N 116) 61 ((ti : Int) + 0))]) (M := N) lk_247_117 rfl (lay.on (by decide) rfl) (fun h => absurd h (by decide)) rfl ?_
          exact f2 _ ti (by omega) (by omega) lay2
        · obtain ⟨p1, hp1⟩ : ∃ p1, p1 = i - 1 := ⟨_, rfl⟩
          obtain ⟨w1, _⟩ := hW p1 (by omega)
          rw [← hp1] at hq1 hq3
          obtain ⟨w, hw⟩ : ∃ w, w = wn L r c p1 := ⟨_, rfl⟩
          rw [← hw] at hq1 hq3 w1
          have y4 := (hL0.2 w hq3).1
          rw [← hb, ← hq1] at y4
          obtain ⟨j1, hj1⟩ : ∃ j1, j1 = b + w := ⟨_, rfl⟩
          rw [← hj1] at y4
          have ej1 : (b : Int) + (w : Int) = (j1 : Int) := by omega
          have ep1 : (i : Int) - 1 = (p1 : Int) := by omega
          have y4N : pm_ct N 123 j1 = (q : Int) := by rw [mf.ct (by decide) (by decide)]; exact y4
          have q9 : q ≤ 2 := by rw [hq1]; exact (hD.2.2.2 w hq3).1
          have tz : tu q 1 = if q = 1 then 0 else 1 := by unfold tu; rw [if_neg hq2]
          clear ih k120
          refine g_aload_n lk_247_24 rfl ?_
          refine g_getfield lk_247_25 rfl (lay.on (by decide) rfl) (v := ((123 : Nat) : Int)) (lay.rf rfl) ?_
          refine g_iload lk_247_28 rfl ?_
          refine g_iload lk_247_30 rfl ?_
          refine g_iadd lk_247_32 ?_
          refine g_top (z := ((b : Int) + (k : Int))) (z' := (j : Int)) (ej) ?_
          refine m_iaload (u := []) (M := N) lk_247_33 (lay.ay (by decide) rfl) (by omega) (j := j) (by omega) (v := 1) y1N ?_
          refine g_if (t := 203) lk_247_34 rfl (by first | (unfold pm_inI; omega) | exact pm_and_in _ _ | exact pm_shr_in _ _ | exact pm_or_in _ _ | exact pm_xor_in _ _ | exact pm_shl_in _ _ | exact pm_cmp_in _ _ | exact pm_b8_in _ | (unfold pm_inI; split <;> omega)) (fun h => absurd h (show ¬ ((1 : Int) = (0 : Int)) by omega)) (fun _ => ?_)
          refine g_aload_n lk_247_37 rfl ?_
          refine g_getfield lk_247_38 rfl (lay.on (by decide) rfl) (v := ((123 : Nat) : Int)) (lay.rf rfl) ?_
          refine g_iload lk_247_41 rfl ?_
          refine g_iload lk_247_43 rfl ?_
          refine g_iadd lk_247_45 ?_
          refine g_top (z := ((b : Int) + (k : Int))) (z' := (j : Int)) (ej) ?_
          refine m_iaload (u := []) (M := N) lk_247_46 (lay.ay (by decide) rfl) (by omega) (j := j) (by omega) (v := 1) y1N ?_
          refine g_istore (ls' := [(2, ((116 : Nat) : Int)), (0, (t : Int)), (0, (r : Int)), (0, (c : Int)), (0, (b : Int)), (0, (k : Int)), (0, 1), v7]) lk_247_47 rfl rfl ?_
          refine g_aload_n lk_247_49 rfl ?_
          refine g_getfield lk_247_50 rfl (lay.on (by decide) rfl) (v := ((124 : Nat) : Int)) (lay.rf rfl) ?_
          refine g_iload lk_247_53 rfl ?_
          refine g_iload lk_247_55 rfl ?_
          refine g_iadd lk_247_57 ?_
          refine g_top (z := ((b : Int) + (k : Int))) (z' := (j : Int)) (ej) ?_
          refine m_iaload (u := []) (M := N) lk_247_58 (lay.ay (by decide) rfl) (by omega) (j := j) (by omega) (v := (s : Int)) y2N ?_
          refine g_iload lk_247_59 rfl ?_
          refine g_iconst lk_247_61 ?_
          refine g_icmp (t := 69) lk_247_62 rfl (by first | (unfold pm_inI; omega) | exact pm_and_in _ _ | exact pm_shr_in _ _ | exact pm_or_in _ _ | exact pm_xor_in _ _ | exact pm_shl_in _ _ | exact pm_cmp_in _ _ | exact pm_b8_in _ | (unfold pm_inI; split <;> omega)) (by first | (unfold pm_inI; omega) | exact pm_and_in _ _ | exact pm_shr_in _ _ | exact pm_or_in _ _ | exact pm_xor_in _ _ | exact pm_shl_in _ _ | exact pm_cmp_in _ _ | exact pm_b8_in _ | (unfold pm_inI; split <;> omega)) (fun h => absurd h (show ¬ (¬ (1 : Int) = (1 : Int)) by omega)) (fun _ => ?_)
          refine g_iload_n lk_247_65 rfl ?_
          refine g_goto (t := 70) lk_247_66 rfl ?_
          refine g_static (Qc := _) lk_247_70 (by decide) rfl (Nat.le_of_ble_eq_true rfl) rfl rfl (Nat.le_of_ble_eq_true rfl) (Nat.le_of_ble_eq_true rfl) (Nat.zero_le _) (Nat.zero_le _) (io _) ?_
          rintro _ N1 ⟨rfl, hN1⟩
          rw [hN1]
          show Wp _ 247 73 [(2, ((116 : Nat) : Int)), (0, (t : Int)), (0, (r : Int)), (0, (c : Int)), (0, (b : Int)), (0, (k : Int)), (0, 1), v7] [(0, yv)] N _ _ _
          refine g_istore (ls' := [(2, ((116 : Nat) : Int)), (0, (t : Int)), (0, (r : Int)), (0, (c : Int)), (0, (b : Int)), (0, (k : Int)), (0, 1), (0, yv)]) lk_247_73 rfl rfl ?_
          refine g_aload_n lk_247_75 rfl ?_
          refine g_dup lk_247_76 rfl ?_
          refine m_getfield (u := []) (M := N) lk_247_77 rfl (lay.on (by decide) rfl) (v := (ti : Int)) f61 ?_
          refine g_aload_n lk_247_80 rfl ?_
          refine m_getfield (u := []) (M := N) lk_247_81 rfl (lay.on (by decide) rfl) (v := (i : Int)) f59 ?_
          refine g_if (t := 115) lk_247_84 rfl (by first | (unfold pm_inI; omega) | exact pm_and_in _ _ | exact pm_shr_in _ _ | exact pm_or_in _ _ | exact pm_xor_in _ _ | exact pm_shl_in _ _ | exact pm_cmp_in _ _ | exact pm_b8_in _ | (unfold pm_inI; split <;> omega)) (fun h2 => ?_) (fun h2 => ?_)
          · replace h2 : (i : Int) ≤ 0 := h2
            refine g_iconst lk_247_115 ?_
            refine g_iadd lk_247_116 ?_
            have lay3 : Lay (Mu [(116, pm_upd (pm_ct N 116) 61 ((ti : Int) + 0))] N) := lay.muF (l := []) (a := 116) (k := 61) (z := ((ti : Int) + 0)) rfl rfl
            refine m_putfield (u := []) (u' := [(116, pm_upd (pm_ct N 116) 61 ((ti : Int) + 0))]) (M := N) lk_247_117 rfl (lay.on (by decide) rfl) (fun h => absurd h (by decide)) rfl ?_
            omega
          · replace h2 : ¬ ((i : Int) ≤ 0) := h2
            refine g_aload_n lk_247_87 rfl ?_
            refine g_getfield lk_247_88 rfl (lay.on (by decide) rfl) (v := ((123 : Nat) : Int)) (lay.rf rfl) ?_
            refine g_iload lk_247_91 rfl ?_
            refine g_aload_n lk_247_93 rfl ?_
            refine g_getfield lk_247_94 rfl (lay.on (by decide) rfl) (v := ((151 : Nat) : Int)) (lay.rf rfl) ?_
            refine g_aload_n lk_247_97 rfl ?_
            refine m_getfield (u := []) (M := N) lk_247_98 rfl (lay.on (by decide) rfl) (v := (i : Int)) f59 ?_
            refine g_iconst lk_247_101 ?_
            refine g_isub lk_247_102 ?_
            refine g_top (z := ((i : Int) - 1)) (z' := (p1 : Int)) (ep1) ?_
            refine m_iaload (u := []) (M := N) lk_247_103 (lay.ay (by decide) rfl) (by omega) (j := p1) (by omega) (v := (w : Int)) w1 ?_
            refine g_iadd lk_247_104 ?_
            refine g_top (z := ((b : Int) + (w : Int))) (z' := (j1 : Int)) (ej1) ?_
            refine m_iaload (u := []) (M := N) lk_247_105 (lay.ay (by decide) rfl) (by omega) (j := j1) (by omega) (v := (q : Int)) y4N ?_
            refine g_iload lk_247_106 rfl ?_
            refine g_icmp (t := 115) lk_247_108 rfl (by first | (unfold pm_inI; omega) | exact pm_and_in _ _ | exact pm_shr_in _ _ | exact pm_or_in _ _ | exact pm_xor_in _ _ | exact pm_shl_in _ _ | exact pm_cmp_in _ _ | exact pm_b8_in _ | (unfold pm_inI; split <;> omega)) (by first | (unfold pm_inI; omega) | exact pm_and_in _ _ | exact pm_shr_in _ _ | exact pm_or_in _ _ | exact pm_xor_in _ _ | exact pm_shl_in _ _ | exact pm_cmp_in _ _ | exact pm_b8_in _ | (unfold pm_inI; split <;> omega)) (fun h4 => ?_) (fun h4 => ?_)
            · replace h4 : (q : Int) = 1 := h4
              refine g_iconst lk_247_115 ?_
              refine g_iadd lk_247_116 ?_
              have lay5 : Lay (Mu [(116, pm_upd (pm_ct N 116) 61 ((ti : Int) + 0))] N) := lay.muF (l := []) (a := 116) (k := 61) (z := ((ti : Int) + 0)) rfl rfl
              refine m_putfield (u := []) (u' := [(116, pm_upd (pm_ct N 116) 61 ((ti : Int) + 0))]) (M := N) lk_247_117 rfl (lay.on (by decide) rfl) (fun h => absurd h (by decide)) rfl ?_
              exact f2 _ ti (by omega) (by rw [tz, if_pos (by omega)]; rfl) lay5
            · replace h4 : ¬ ((q : Int) = 1) := h4
              refine g_iconst lk_247_111 ?_
              refine g_goto (t := 116) lk_247_112 rfl ?_
              refine g_iadd lk_247_116 ?_
              have lay6 : Lay (Mu [(116, pm_upd (pm_ct N 116) 61 ((ti : Int) + 1))] N) := lay.muF (l := []) (a := 116) (k := 61) (z := ((ti : Int) + 1)) rfl rfl
              refine m_putfield (u := []) (u' := [(116, pm_upd (pm_ct N 116) 61 ((ti : Int) + 1))]) (M := N) lk_247_117 rfl (lay.on (by decide) rfl) (fun h => absurd h (by decide)) rfl ?_
              exact f2 _ (ti + 1) (by omega) (by rw [tz, if_neg (by omega)]) lay6
      · rw [ex, if_neg (by omega)] at ey
        have y1N : pm_ct N 123 j = 2 := by rw [mf.ct (by decide) (by decide), y1, ex]; rfl
        have io : ∀ P : pm_M, pm_E d 168 [(0, (s : Int)), (0, (c : Int))] P 0 0 (fun ρ M' => ρ = some (0, yv) ∧ M' = P) := fun P => by
          have := c_Mo_isOf (d := d) (mc := 0) (ms := 0) (M := P) (m := c) (s := s) (by omega) (by omega)
          rw [← ey, ← hyv] at this
          exact this
        have f2 := fin2
        rw [ex] at f2
        rcases hq with ⟨i0, q0⟩ | ⟨i1, hq1, hq2, hq3⟩
        · rw [i0] at f59
          have tz : tu q 2 = 0 := by unfold tu; rw [if_pos q0]
          clear ih k120
          refine g_aload_n lk_247_24 rfl ?_
          refine g_getfield lk_247_25 rfl (lay.on (by decide) rfl) (v := ((123 : Nat) : Int)) (lay.rf rfl) ?_
          refine g_iload lk_247_28 rfl ?_
          refine g_iload lk_247_30 rfl ?_
          refine g_iadd lk_247_32 ?_
          refine g_top (z := ((b : Int) + (k : Int))) (z' := (j : Int)) (ej) ?_
          refine m_iaload (u := []) (M := N) lk_247_33 (lay.ay (by decide) rfl) (by omega) (j := j) (by omega) (v := 2) y1N ?_
          refine g_if (t := 203) lk_247_34 rfl (by first | (unfold pm_inI; omega) | exact pm_and_in _ _ | exact pm_shr_in _ _ | exact pm_or_in _ _ | exact pm_xor_in _ _ | exact pm_shl_in _ _ | exact pm_cmp_in _ _ | exact pm_b8_in _ | (unfold pm_inI; split <;> omega)) (fun h => absurd h (show ¬ ((2 : Int) = (0 : Int)) by omega)) (fun _ => ?_)
          refine g_aload_n lk_247_37 rfl ?_
          refine g_getfield lk_247_38 rfl (lay.on (by decide) rfl) (v := ((123 : Nat) : Int)) (lay.rf rfl) ?_
          refine g_iload lk_247_41 rfl ?_
          refine g_iload lk_247_43 rfl ?_
          refine g_iadd lk_247_45 ?_
          refine g_top (z := ((b : Int) + (k : Int))) (z' := (j : Int)) (ej) ?_
          refine m_iaload (u := []) (M := N) lk_247_46 (lay.ay (by decide) rfl) (by omega) (j := j) (by omega) (v := 2) y1N ?_
          refine g_istore (ls' := [(2, ((116 : Nat) : Int)), (0, (t : Int)), (0, (r : Int)), (0, (c : Int)), (0, (b : Int)), (0, (k : Int)), (0, 2), v7]) lk_247_47 rfl rfl ?_
          refine g_aload_n lk_247_49 rfl ?_
          refine g_getfield lk_247_50 rfl (lay.on (by decide) rfl) (v := ((124 : Nat) : Int)) (lay.rf rfl) ?_
          refine g_iload lk_247_53 rfl ?_
          refine g_iload lk_247_55 rfl ?_
          refine g_iadd lk_247_57 ?_
          refine g_top (z := ((b : Int) + (k : Int))) (z' := (j : Int)) (ej) ?_
          refine m_iaload (u := []) (M := N) lk_247_58 (lay.ay (by decide) rfl) (by omega) (j := j) (by omega) (v := (s : Int)) y2N ?_
          refine g_iload lk_247_59 rfl ?_
          refine g_iconst lk_247_61 ?_
          refine g_icmp (t := 69) lk_247_62 rfl (by first | (unfold pm_inI; omega) | exact pm_and_in _ _ | exact pm_shr_in _ _ | exact pm_or_in _ _ | exact pm_xor_in _ _ | exact pm_shl_in _ _ | exact pm_cmp_in _ _ | exact pm_b8_in _ | (unfold pm_inI; split <;> omega)) (by first | (unfold pm_inI; omega) | exact pm_and_in _ _ | exact pm_shr_in _ _ | exact pm_or_in _ _ | exact pm_xor_in _ _ | exact pm_shl_in _ _ | exact pm_cmp_in _ _ | exact pm_b8_in _ | (unfold pm_inI; split <;> omega)) (fun _ => ?_) (fun h => absurd (show ¬ (2 : Int) = (1 : Int) by omega) h)
          refine g_iload_n lk_247_69 rfl ?_
          refine g_static (Qc := _) lk_247_70 (by decide) rfl (Nat.le_of_ble_eq_true rfl) rfl rfl (Nat.le_of_ble_eq_true rfl) (Nat.le_of_ble_eq_true rfl) (Nat.zero_le _) (Nat.zero_le _) (io _) ?_
          rintro _ N1 ⟨rfl, hN1⟩
          rw [hN1]
          show Wp _ 247 73 [(2, ((116 : Nat) : Int)), (0, (t : Int)), (0, (r : Int)), (0, (c : Int)), (0, (b : Int)), (0, (k : Int)), (0, 2), v7] [(0, yv)] N _ _ _
          refine g_istore (ls' := [(2, ((116 : Nat) : Int)), (0, (t : Int)), (0, (r : Int)), (0, (c : Int)), (0, (b : Int)), (0, (k : Int)), (0, 2), (0, yv)]) lk_247_73 rfl rfl ?_
          refine g_aload_n lk_247_75 rfl ?_
          refine g_dup lk_247_76 rfl ?_
          refine m_getfield (u := []) (M := N) lk_247_77 rfl (lay.on (by decide) rfl) (v := (ti : Int)) f61 ?_
          refine g_aload_n lk_247_80 rfl ?_
          refine m_getfield (u := []) (M := N) lk_247_81 rfl (lay.on (by decide) rfl) (v := 0) f59 ?_
          refine g_if (t := 115) lk_247_84 rfl (by first | (unfold pm_inI; omega) | exact pm_and_in _ _ | exact pm_shr_in _ _ | exact pm_or_in _ _ | exact pm_xor_in _ _ | exact pm_shl_in _ _ | exact pm_cmp_in _ _ | exact pm_b8_in _ | (unfold pm_inI; split <;> omega)) (fun _ => ?_) (fun h => absurd (show (0 : Int) ≤ (0 : Int) by omega) h)
          refine g_iconst lk_247_115 ?_
          refine g_iadd lk_247_116 ?_
          have lay2 : Lay (Mu [(116, pm_upd (pm_ct N 116) 61 ((ti : Int) + 0))] N) := lay.muF (l := []) (a := 116) (k := 61) (z := ((ti : Int) + 0)) rfl rfl
          refine m_putfield (u := []) (u' := [(116, pm_upd (pm_ct N 116) 61 ((ti : Int) + 0))]) (M := N) lk_247_117 rfl (lay.on (by decide) rfl) (fun h => absurd h (by decide)) rfl ?_
          exact f2 _ ti (by omega) (by omega) lay2
        · obtain ⟨p1, hp1⟩ : ∃ p1, p1 = i - 1 := ⟨_, rfl⟩
          obtain ⟨w1, _⟩ := hW p1 (by omega)
          rw [← hp1] at hq1 hq3
          obtain ⟨w, hw⟩ : ∃ w, w = wn L r c p1 := ⟨_, rfl⟩
          rw [← hw] at hq1 hq3 w1
          have y4 := (hL0.2 w hq3).1
          rw [← hb, ← hq1] at y4
          obtain ⟨j1, hj1⟩ : ∃ j1, j1 = b + w := ⟨_, rfl⟩
          rw [← hj1] at y4
          have ej1 : (b : Int) + (w : Int) = (j1 : Int) := by omega
          have ep1 : (i : Int) - 1 = (p1 : Int) := by omega
          have y4N : pm_ct N 123 j1 = (q : Int) := by rw [mf.ct (by decide) (by decide)]; exact y4
          have q9 : q ≤ 2 := by rw [hq1]; exact (hD.2.2.2 w hq3).1
          have tz : tu q 2 = if q = 2 then 0 else 1 := by unfold tu; rw [if_neg hq2]
          clear ih k120
          refine g_aload_n lk_247_24 rfl ?_
          refine g_getfield lk_247_25 rfl (lay.on (by decide) rfl) (v := ((123 : Nat) : Int)) (lay.rf rfl) ?_
          refine g_iload lk_247_28 rfl ?_
          refine g_iload lk_247_30 rfl ?_
          refine g_iadd lk_247_32 ?_
          refine g_top (z := ((b : Int) + (k : Int))) (z' := (j : Int)) (ej) ?_
          refine m_iaload (u := []) (M := N) lk_247_33 (lay.ay (by decide) rfl) (by omega) (j := j) (by omega) (v := 2) y1N ?_
          refine g_if (t := 203) lk_247_34 rfl (by first | (unfold pm_inI; omega) | exact pm_and_in _ _ | exact pm_shr_in _ _ | exact pm_or_in _ _ | exact pm_xor_in _ _ | exact pm_shl_in _ _ | exact pm_cmp_in _ _ | exact pm_b8_in _ | (unfold pm_inI; split <;> omega)) (fun h => absurd h (show ¬ ((2 : Int) = (0 : Int)) by omega)) (fun _ => ?_)
          refine g_aload_n lk_247_37 rfl ?_
          refine g_getfield lk_247_38 rfl (lay.on (by decide) rfl) (v := ((123 : Nat) : Int)) (lay.rf rfl) ?_
          refine g_iload lk_247_41 rfl ?_
          refine g_iload lk_247_43 rfl ?_
          refine g_iadd lk_247_45 ?_
          refine g_top (z := ((b : Int) + (k : Int))) (z' := (j : Int)) (ej) ?_
          refine m_iaload (u := []) (M := N) lk_247_46 (lay.ay (by decide) rfl) (by omega) (j := j) (by omega) (v := 2) y1N ?_
          refine g_istore (ls' := [(2, ((116 : Nat) : Int)), (0, (t : Int)), (0, (r : Int)), (0, (c : Int)), (0, (b : Int)), (0, (k : Int)), (0, 2), v7]) lk_247_47 rfl rfl ?_
          refine g_aload_n lk_247_49 rfl ?_
          refine g_getfield lk_247_50 rfl (lay.on (by decide) rfl) (v := ((124 : Nat) : Int)) (lay.rf rfl) ?_
          refine g_iload lk_247_53 rfl ?_
          refine g_iload lk_247_55 rfl ?_
          refine g_iadd lk_247_57 ?_
          refine g_top (z := ((b : Int) + (k : Int))) (z' := (j : Int)) (ej) ?_
          refine m_iaload (u := []) (M := N) lk_247_58 (lay.ay (by decide) rfl) (by omega) (j := j) (by omega) (v := (s : Int)) y2N ?_
          refine g_iload lk_247_59 rfl ?_
          refine g_iconst lk_247_61 ?_
          refine g_icmp (t := 69) lk_247_62 rfl (by first | (unfold pm_inI; omega) | exact pm_and_in _ _ | exact pm_shr_in _ _ | exact pm_or_in _ _ | exact pm_xor_in _ _ | exact pm_shl_in _ _ | exact pm_cmp_in _ _ | exact pm_b8_in _ | (unfold pm_inI; split <;> omega)) (by first | (unfold pm_inI; omega) | exact pm_and_in _ _ | exact pm_shr_in _ _ | exact pm_or_in _ _ | exact pm_xor_in _ _ | exact pm_shl_in _ _ | exact pm_cmp_in _ _ | exact pm_b8_in _ | (unfold pm_inI; split <;> omega)) (fun _ => ?_) (fun h => absurd (show ¬ (2 : Int) = (1 : Int) by omega) h)
          refine g_iload_n lk_247_69 rfl ?_
          refine g_static (Qc := _) lk_247_70 (by decide) rfl (Nat.le_of_ble_eq_true rfl) rfl rfl (Nat.le_of_ble_eq_true rfl) (Nat.le_of_ble_eq_true rfl) (Nat.zero_le _) (Nat.zero_le _) (io _) ?_
          rintro _ N1 ⟨rfl, hN1⟩
          rw [hN1]
          show Wp _ 247 73 [(2, ((116 : Nat) : Int)), (0, (t : Int)), (0, (r : Int)), (0, (c : Int)), (0, (b : Int)), (0, (k : Int)), (0, 2), v7] [(0, yv)] N _ _ _
          refine g_istore (ls' := [(2, ((116 : Nat) : Int)), (0, (t : Int)), (0, (r : Int)), (0, (c : Int)), (0, (b : Int)), (0, (k : Int)), (0, 2), (0, yv)]) lk_247_73 rfl rfl ?_
          refine g_aload_n lk_247_75 rfl ?_
          refine g_dup lk_247_76 rfl ?_
          refine m_getfield (u := []) (M := N) lk_247_77 rfl (lay.on (by decide) rfl) (v := (ti : Int)) f61 ?_
          refine g_aload_n lk_247_80 rfl ?_
          refine m_getfield (u := []) (M := N) lk_247_81 rfl (lay.on (by decide) rfl) (v := (i : Int)) f59 ?_
          refine g_if (t := 115) lk_247_84 rfl (by first | (unfold pm_inI; omega) | exact pm_and_in _ _ | exact pm_shr_in _ _ | exact pm_or_in _ _ | exact pm_xor_in _ _ | exact pm_shl_in _ _ | exact pm_cmp_in _ _ | exact pm_b8_in _ | (unfold pm_inI; split <;> omega)) (fun h2 => ?_) (fun h2 => ?_)
          · replace h2 : (i : Int) ≤ 0 := h2
            refine g_iconst lk_247_115 ?_
            refine g_iadd lk_247_116 ?_
            have lay3 : Lay (Mu [(116, pm_upd (pm_ct N 116) 61 ((ti : Int) + 0))] N) := lay.muF (l := []) (a := 116) (k := 61) (z := ((ti : Int) + 0)) rfl rfl
            refine m_putfield (u := []) (u' := [(116, pm_upd (pm_ct N 116) 61 ((ti : Int) + 0))]) (M := N) lk_247_117 rfl (lay.on (by decide) rfl) (fun h => absurd h (by decide)) rfl ?_
            omega
          · replace h2 : ¬ ((i : Int) ≤ 0) := h2
            refine g_aload_n lk_247_87 rfl ?_
            refine g_getfield lk_247_88 rfl (lay.on (by decide) rfl) (v := ((123 : Nat) : Int)) (lay.rf rfl) ?_
            refine g_iload lk_247_91 rfl ?_
            refine g_aload_n lk_247_93 rfl ?_
            refine g_getfield lk_247_94 rfl (lay.on (by decide) rfl) (v := ((151 : Nat) : Int)) (lay.rf rfl) ?_
            refine g_aload_n lk_247_97 rfl ?_
            refine m_getfield (u := []) (M := N) lk_247_98 rfl (lay.on (by decide) rfl) (v := (i : Int)) f59 ?_
            refine g_iconst lk_247_101 ?_
            refine g_isub lk_247_102 ?_
            refine g_top (z := ((i : Int) - 1)) (z' := (p1 : Int)) (ep1) ?_
            refine m_iaload (u := []) (M := N) lk_247_103 (lay.ay (by decide) rfl) (by omega) (j := p1) (by omega) (v := (w : Int)) w1 ?_
            refine g_iadd lk_247_104 ?_
            refine g_top (z := ((b : Int) + (w : Int))) (z' := (j1 : Int)) (ej1) ?_
            refine m_iaload (u := []) (M := N) lk_247_105 (lay.ay (by decide) rfl) (by omega) (j := j1) (by omega) (v := (q : Int)) y4N ?_
            refine g_iload lk_247_106 rfl ?_
            refine g_icmp (t := 115) lk_247_108 rfl (by first | (unfold pm_inI; omega) | exact pm_and_in _ _ | exact pm_shr_in _ _ | exact pm_or_in _ _ | exact pm_xor_in _ _ | exact pm_shl_in _ _ | exact pm_cmp_in _ _ | exact pm_b8_in _ | (unfold pm_inI; split <;> omega)) (by first | (unfold pm_inI; omega) | exact pm_and_in _ _ | exact pm_shr_in _ _ | exact pm_or_in _ _ | exact pm_xor_in _ _ | exact pm_shl_in _ _ | exact pm_cmp_in _ _ | exact pm_b8_in _ | (unfold pm_inI; split <;> omega)) (fun h4 => ?_) (fun h4 => ?_)
            · replace h4 : (q : Int) = 2 := h4
              refine g_iconst lk_247_115 ?_
              refine g_iadd lk_247_116 ?_
              have lay5 : Lay (Mu [(116, pm_upd (pm_ct N 116) 61 ((ti : Int) + 0))] N) := lay.muF (l := []) (a := 116) (k := 61) (z := ((ti : Int) + 0)) rfl rfl
              refine m_putfield (u := []) (u' := [(116, pm_upd (pm_ct N 116) 61 ((ti : Int) + 0))]) (M := N) lk_247_117 rfl (lay.on (by decide) rfl) (fun h => absurd h (by decide)) rfl ?_
              exact f2 _ ti (by omega) (by rw [tz, if_pos (by omega)]; rfl) lay5
            · replace h4 : ¬ ((q : Int) = 2) := h4
              refine g_iconst lk_247_111 ?_
              refine g_goto (t := 116) lk_247_112 rfl ?_
              refine g_iadd lk_247_116 ?_
              have lay6 : Lay (Mu [(116, pm_upd (pm_ct N 116) 61 ((ti : Int) + 1))] N) := lay.muF (l := []) (a := 116) (k := 61) (z := ((ti : Int) + 1)) rfl rfl
              refine m_putfield (u := []) (u' := [(116, pm_upd (pm_ct N 116) 61 ((ti : Int) + 1))]) (M := N) lk_247_117 rfl (lay.on (by decide) rfl) (fun h => absurd h (by decide)) rfl ?_
              exact f2 _ (ti + 1) (by omega) (by rw [tz, if_neg (by omega)]) lay6
  show Wp (d + 1) 247 0 [(2, ((116 : Nat) : Int)), (0, (t : Int)), (0, (r : Int)), (0, (c : Int)), (9, 0), (9, 0), (9, 0), (9, 0)] [] M mc ms Q
  have eb : (31 : Int) * (t : Int) = (b : Int) := by omega
  have i59 : ∀ (z1 z2 z3 : Int) (j : Nat), j ∉ [59, 60, 61] → pm_upd (pm_upd (pm_upd (pm_ct M 116) 59 z1) 60 z2) 61 z3 j = pm_ct M 116 j := fun z1 z2 z3 j hj => by
    simp at hj
    rw [pm_upd_ne (by omega), pm_upd_ne (by omega), pm_upd_ne (by omega)]
  refine g_bipush lk_247_0 ?_
  refine g_iload_n lk_247_2 rfl ?_
  refine g_imul lk_247_3 ?_
  refine g_top (z := (31 * (t : Int))) (z' := (b : Int)) (eb) ?_
  refine g_istore (ls' := [(2, ((116 : Nat) : Int)), (0, (t : Int)), (0, (r : Int)), (0, (c : Int)), (0, (b : Int)), (9, 0), (9, 0), (9, 0)]) lk_247_4 rfl rfl ?_
  refine g_iconst lk_247_6 ?_
  refine g_istore (ls' := [(2, ((116 : Nat) : Int)), (0, (t : Int)), (0, (r : Int)), (0, (c : Int)), (0, (b : Int)), (0, 0), (9, 0), (9, 0)]) lk_247_7 rfl rfl ?_
  refine g_aload_n lk_247_9 rfl ?_
  refine g_iconst lk_247_10 ?_
  have lay1 : Lay (Mu [(116, pm_upd (pm_ct M 116) 59 0)] M) := lay0.muF (l := []) (a := 116) (k := 59) (z := 0) rfl rfl
  refine m_putfield (u := []) (u' := [(116, pm_upd (pm_ct M 116) 59 0)]) (M := M) lk_247_11 rfl (lay0.on (by decide) rfl) (fun h => absurd h (by decide)) rfl ?_
  refine g_aload_n lk_247_14 rfl ?_
  refine g_iconst lk_247_15 ?_
  have lay2 : Lay (Mu [(116, pm_upd (pm_upd (pm_ct M 116) 59 0) 60 0)] M) := lay1.muF (l := [(116, pm_upd (pm_ct M 116) 59 0)]) (a := 116) (k := 60) (z := 0) rfl rfl
  refine m_putfield (u := [(116, pm_upd (pm_ct M 116) 59 0)]) (u' := [(116, pm_upd (pm_upd (pm_ct M 116) 59 0) 60 0)]) (M := M) lk_247_16 rfl (lay1.on (by decide) rfl) (fun h => absurd h (by decide)) rfl ?_
  refine g_aload_n lk_247_19 rfl ?_
  refine g_iconst lk_247_20 ?_
  have lay3 : Lay (Mu [(116, pm_upd (pm_upd (pm_upd (pm_ct M 116) 59 0) 60 0) 61 0)] M) := lay2.muF (l := [(116, pm_upd (pm_upd (pm_ct M 116) 59 0) 60 0)]) (a := 116) (k := 61) (z := 0) rfl rfl
  refine m_putfield (u := [(116, pm_upd (pm_upd (pm_ct M 116) 59 0) 60 0)]) (u' := [(116, pm_upd (pm_upd (pm_upd (pm_ct M 116) 59 0) 60 0) 61 0)]) (M := M) lk_247_21 rfl (lay2.on (by decide) rfl) (fun h => absurd h (by decide)) rfl ?_
  refine loop 9 0 0 0 0 0 _ _ _ rfl (by have := hD.1; omega) hD.2.2.1 rfl (Nat.le_refl _) (Nat.le_refl _) (Or.inl ⟨rfl, rfl⟩) rfl rfl (Nat.zero_add _).symm (Nat.zero_add _).symm lay3 (MF.mu _ _ rfl (i59 _ _ _)) ?_ ?_ ?_ (fun j hj => absurd hj (by omega))
  · rw [Mu_ct]; rfl
  · rw [Mu_ct]; rfl
  · rw [Mu_ct]; rfl
