/-! ===== rank: the model ===== -/
theorem cmpz {z w : Int} (h : pm_inL z) (h2 : pm_inL w) : ∃ k : Int, pm_cmp (pm_wL z) (pm_wL w) = k ∧ (k ≤ 0 ↔ z ≤ w) ∧ (0 ≤ k ↔ w ≤ z) ∧ -1 ≤ k ∧ k ≤ 1 := by
  rw [pm_wL_of h, pm_wL_of h2]
  unfold pm_cmp
  by_cases a : w < z
  · exact ⟨1, by rw [if_pos a], by omega, by omega, by omega, by omega⟩
  · rw [if_neg a]
    by_cases b : z = w
    · exact ⟨0, by rw [if_pos b], by omega, by omega, by omega, by omega⟩
    · exact ⟨-1, by rw [if_neg b], by omega, by omega, by omega, by omega⟩
theorem gcd_st (x y : Nat) : Nat.gcd x y = Nat.gcd y (x % y) := by
  rw [Nat.gcd_comm x y, Nat.gcd_rec y x, Nat.gcd_comm]
set_option maxHeartbeats 4000000 in
theorem c_Mo_gcd {d mc ms : Nat} {M : pm_M} {a b : Int} (ha : a.natAbs ≤ 400000000000000000) (hb : b.natAbs ≤ 400000000000000000) :
    pm_E d 226 [(1, a), (1, b)] M mc ms (fun ρ M' => ρ = some (1, ((Nat.gcd a.natAbs b.natAbs : Nat) : Int)) ∧ M' = M) := by
  obtain ⟨Q, hQ⟩ : ∃ Q : pm_Q, Q = (fun ρ M' => ρ = some (1, ((Nat.gcd a.natAbs b.natAbs : Nat) : Int)) ∧ M' = M) := ⟨_, rfl⟩
  rw [← hQ]
  have loop : ∀ (k x y : Nat) (v8 v9 : pm_V), y ≤ k → x ≤ 400000000000000000 → y ≤ 400000000000000000 → Nat.gcd x y = Nat.gcd a.natAbs b.natAbs → Wp d 226 28 [(1, a), (9, 0), (1, b), (9, 0), (1, (x : Int)), (9, 0), (1, (y : Int)), (9, 0), v8, v9] [] M mc ms Q := by
    intro k
    induction k with
    | zero =>
      intro x y v8 v9 hy hx hy2 hg
      have y0 : y = 0 := by omega
      rw [y0, Nat.gcd_zero_right] at hg
      have e0 : (y : Int) = 0 := by omega
      rw [e0]
      obtain ⟨q, hq1, hq2, hq3, hq4, hq5⟩ := cmpz (z := 0) (w := 0) (by unfold pm_inL; omega) (by unfold pm_inL; omega)
      refine g_lload lk_226_28 rfl ?_
      refine g_lconst lk_226_30 ?_
      refine g_lcmp lk_226_31 ?_
      refine g_top (z := (pm_cmp (pm_wL 0) (pm_wL 0))) (z' := q) (hq1) ?_
      refine g_if (t := 53) lk_226_32 rfl (by first | (unfold pm_inI; omega) | exact pm_and_in _ _ | exact pm_shr_in _ _ | exact pm_or_in _ _ | exact pm_xor_in _ _ | exact pm_shl_in _ _ | exact pm_cmp_in _ _ | exact pm_b8_in _ | (unfold pm_inI; split <;> omega)) (fun h1 => ?_) (fun h1 => ?_)
      · replace h1 : q = 0 := h1
        refine g_lload lk_226_53 rfl ?_
        refine g_lreturn lk_226_55 ?_
        rw [hQ]
        exact ⟨by rw [← hg], rfl⟩
      · replace h1 : ¬ (q = 0) := h1
        omega
    | succ k ih =>
      intro x y v8 v9 hy hx hy2 hg
      obtain ⟨q, hq1, hq2, hq3, hq4, hq5⟩ := cmpz (z := (y : Int)) (w := 0) (by unfold pm_inL; omega) (by unfold pm_inL; omega)
      by_cases y0 : y = 0
      · rw [y0, Nat.gcd_zero_right] at hg
        refine g_lload lk_226_28 rfl ?_
        refine g_lconst lk_226_30 ?_
        refine g_lcmp lk_226_31 ?_
        refine g_top (z := (pm_cmp (pm_wL (y : Int)) (pm_wL 0))) (z' := q) (hq1) ?_
        refine g_if (t := 53) lk_226_32 rfl (by first | (unfold pm_inI; omega) | exact pm_and_in _ _ | exact pm_shr_in _ _ | exact pm_or_in _ _ | exact pm_xor_in _ _ | exact pm_shl_in _ _ | exact pm_cmp_in _ _ | exact pm_b8_in _ | (unfold pm_inI; split <;> omega)) (fun h1 => ?_) (fun h1 => ?_)
        · replace h1 : q = 0 := h1
          refine g_lload lk_226_53 rfl ?_
          refine g_lreturn lk_226_55 ?_
          rw [hQ]
          exact ⟨by rw [← hg], rfl⟩
        · replace h1 : ¬ (q = 0) := h1
          omega
      · have em : (pm_wL (x : Int)).tmod (pm_wL (y : Int)) = ((x % y : Nat) : Int) := by
          rw [pm_wL_of (by unfold pm_inL; omega), pm_wL_of (by unfold pm_inL; omega)]; rfl
        have bz : ¬ pm_wL (y : Int) = 0 := by rw [pm_wL_of (by unfold pm_inL; omega)]; omega
        have ml := Nat.mod_lt x (show 0 < y by omega)
        rw [gcd_st] at hg
        obtain ⟨m, hm⟩ : ∃ m, m = x % y := ⟨_, rfl⟩
        rw [← hm] at em ml hg
        refine g_lload lk_226_28 rfl ?_
        refine g_lconst lk_226_30 ?_
        refine g_lcmp lk_226_31 ?_
        refine g_top (z := (pm_cmp (pm_wL (y : Int)) (pm_wL 0))) (z' := q) (hq1) ?_
        refine g_if (t := 53) lk_226_32 rfl (by first | (unfold pm_inI; omega) | exact pm_and_in _ _ | exact pm_shr_in _ _ | exact pm_or_in _ _ | exact pm_xor_in _ _ | exact pm_shl_in _ _ | exact pm_cmp_in _ _ | exact pm_b8_in _ | (unfold pm_inI; split <;> omega)) (fun h1 => ?_) (fun h1 => ?_)
        · replace h1 : q = 0 := h1
          omega
        · replace h1 : ¬ (q = 0) := h1
          refine g_lload lk_226_35 rfl ?_
          refine g_lload lk_226_37 rfl ?_
          refine g_lrem lk_226_39 ?_ ?_
          · exact bz
          refine g_top (z := ((pm_wL (x : Int)).tmod (pm_wL (y : Int)))) (z' := (m : Int)) (em) ?_
          refine g_lstore (ls' := [(1, a), (9, 0), (1, b), (9, 0), (1, (x : Int)), (9, 0), (1, (y : Int)), (9, 0), (1, (m : Int)), (9, 0)]) lk_226_40 rfl rfl ?_
          refine g_lload lk_226_42 rfl ?_
          refine g_lstore (ls' := [(1, a), (9, 0), (1, b), (9, 0), (1, (y : Int)), (9, 0), (1, (y : Int)), (9, 0), (1, (m : Int)), (9, 0)]) lk_226_44 rfl rfl ?_
          refine g_lload lk_226_46 rfl ?_
          refine g_lstore (ls' := [(1, a), (9, 0), (1, b), (9, 0), (1, (y : Int)), (9, 0), (1, (m : Int)), (9, 0), (1, (m : Int)), (9, 0)]) lk_226_48 rfl rfl ?_
          refine g_goto (t := 28) lk_226_50 rfl ?_
          exact ih y m _ _ (by omega) hy2 (by omega) hg
  obtain ⟨q, hq1, hq2, hq3, hq4, hq5⟩ := cmpz (z := a) (w := 0) (inL_of ha) (by unfold pm_inL; omega)
  obtain ⟨q', hq1', hq2', hq3', hq4', hq5'⟩ := cmpz (z := b) (w := 0) (inL_of hb) (by unfold pm_inL; omega)
  have go := fun (z w : Int) (hz : z = (a.natAbs : Int)) (hw : w = (b.natAbs : Int)) (v8 v9 : pm_V) => show Wp d 226 28 [(1, a), (9, 0), (1, b), (9, 0), (1, z), (9, 0), (1, w), (9, 0), v8, v9] [] M mc ms Q by rw [hz, hw]; exact loop b.natAbs a.natAbs b.natAbs v8 v9 (Nat.le_refl _) ha hb rfl
  show Wp d 226 0 [(1, a), (9, 0), (1, b), (9, 0), (9, 0), (9, 0), (9, 0), (9, 0), (9, 0), (9, 0)] [] M mc ms Q
  refine g_lload_n lk_226_0 rfl ?_
  refine g_lconst lk_226_1 ?_
  refine g_lcmp lk_226_2 ?_
  refine g_top (z := (pm_cmp (pm_wL a) (pm_wL 0))) (z' := q) (hq1) ?_
  refine g_if (t := 11) lk_226_3 rfl (by first | (unfold pm_inI; omega) | exact pm_and_in _ _ | exact pm_shr_in _ _ | exact pm_or_in _ _ | exact pm_xor_in _ _ | exact pm_shl_in _ _ | exact pm_cmp_in _ _ | exact pm_b8_in _ | (unfold pm_inI; split <;> omega)) (fun h1 => ?_) (fun h1 => ?_)
  · replace h1 : 0 ≤ q := h1
    refine g_lload_n lk_226_11 rfl ?_
    refine g_lstore (ls' := [(1, a), (9, 0), (1, b), (9, 0), (1, a), (9, 0), (9, 0), (9, 0), (9, 0), (9, 0)]) lk_226_12 rfl rfl ?_
    refine g_lload_n lk_226_14 rfl ?_
    refine g_lconst lk_226_15 ?_
    refine g_lcmp lk_226_16 ?_
    refine g_top (z := (pm_cmp (pm_wL b) (pm_wL 0))) (z' := q') (hq1') ?_
    refine g_if (t := 25) lk_226_17 rfl (by first | (unfold pm_inI; omega) | exact pm_and_in _ _ | exact pm_shr_in _ _ | exact pm_or_in _ _ | exact pm_xor_in _ _ | exact pm_shl_in _ _ | exact pm_cmp_in _ _ | exact pm_b8_in _ | (unfold pm_inI; split <;> omega)) (fun h2 => ?_) (fun h2 => ?_)
    · replace h2 : 0 ≤ q' := h2
      refine g_lload_n lk_226_25 rfl ?_
      refine g_lstore (ls' := [(1, a), (9, 0), (1, b), (9, 0), (1, a), (9, 0), (1, b), (9, 0), (9, 0), (9, 0)]) lk_226_26 rfl rfl ?_
      refine go _ _ ?_ ?_ _ _ <;> omega
    · replace h2 : ¬ (0 ≤ q') := h2
      refine g_lload_n lk_226_20 rfl ?_
      refine g_lneg lk_226_21 ?_
      refine g_goto (t := 26) lk_226_22 rfl ?_
      refine g_lstore (ls' := [(1, a), (9, 0), (1, b), (9, 0), (1, a), (9, 0), (1, (-b)), (9, 0), (9, 0), (9, 0)]) lk_226_26 rfl rfl ?_
      refine go _ _ ?_ ?_ _ _ <;> omega
  · replace h1 : ¬ (0 ≤ q) := h1
    refine g_lload_n lk_226_6 rfl ?_
    refine g_lneg lk_226_7 ?_
    refine g_goto (t := 12) lk_226_8 rfl ?_
    refine g_lstore (ls' := [(1, a), (9, 0), (1, b), (9, 0), (1, (-a)), (9, 0), (9, 0), (9, 0), (9, 0), (9, 0)]) lk_226_12 rfl rfl ?_
    refine g_lload_n lk_226_14 rfl ?_
    refine g_lconst lk_226_15 ?_
    refine g_lcmp lk_226_16 ?_
    refine g_top (z := (pm_cmp (pm_wL b) (pm_wL 0))) (z' := q') (hq1') ?_
    refine g_if (t := 25) lk_226_17 rfl (by first | (unfold pm_inI; omega) | exact pm_and_in _ _ | exact pm_shr_in _ _ | exact pm_or_in _ _ | exact pm_xor_in _ _ | exact pm_shl_in _ _ | exact pm_cmp_in _ _ | exact pm_b8_in _ | (unfold pm_inI; split <;> omega)) (fun h3 => ?_) (fun h3 => ?_)
    · replace h3 : 0 ≤ q' := h3
      refine g_lload_n lk_226_25 rfl ?_
      refine g_lstore (ls' := [(1, a), (9, 0), (1, b), (9, 0), (1, (-a)), (9, 0), (1, b), (9, 0), (9, 0), (9, 0)]) lk_226_26 rfl rfl ?_
      refine go _ _ ?_ ?_ _ _ <;> omega
    · replace h3 : ¬ (0 ≤ q') := h3
      refine g_lload_n lk_226_20 rfl ?_
      refine g_lneg lk_226_21 ?_
      refine g_goto (t := 26) lk_226_22 rfl ?_
      refine g_lstore (ls' := [(1, a), (9, 0), (1, b), (9, 0), (1, (-a)), (9, 0), (1, (-b)), (9, 0), (9, 0), (9, 0)]) lk_226_26 rfl rfl ?_
      refine go _ _ ?_ ?_ _ _ <;> omega
theorem gV_le {v : Nat → Int} {B : Nat} : ∀ {k : Nat}, (∀ i, i < k → (v i).natAbs ≤ B) → gV v k ≤ B
  | 0, _ => Nat.zero_le _
  | k + 1, h => by
    show Nat.gcd (gV v k) (v k).natAbs ≤ B
    have ih := gV_le (v := v) (k := k) (fun i hi => h i (by omega))
    by_cases e : gV v k = 0
    · rw [e, Nat.gcd_zero_left]; exact h k (by omega)
    · exact Nat.le_trans (Nat.gcd_le_left _ (by omega)) ih
def stv (p : Nat) (V : Nat → Int) (i : Nat) : Int := if p = 0 then V i else nrm (V i) p
set_option maxHeartbeats 8000000 in
theorem c_Mo_takesOff {d mc ms : Nat} {M : pm_M} (lay0 : Lay M) {T : Tab} (hT : TabOK T) (hM0 : MoAt M T) {Y : Mx} (hY : MxAt M 140 (tR T) (tC T) Y) {n c row p : Nat} (hn : n < row) (hr : row < tR T) (hc : c < tC T) (hp : p ≤ 97) (b1 : ∀ i, i < tC T → (Y row i).natAbs ≤ 400000000) (b2 : ∀ i, i < tC T → (Y n i).natAbs ≤ 400000000) :
    pm_E (d + 1) 227 [(2, ((116 : Nat) : Int)), (0, (row : Int)), (0, (n : Int)), (0, (c : Int)), (0, (p : Int))] M mc ms (fun ρ M' => ρ = none ∧ Lay M' ∧ MF [140] [] M M' ∧ MxAt M' 140 (tR T) (tC T) (fun a => if a = row then tk p (tC T) (Y row) (Y n) c else Y a)) := by
  obtain ⟨Q, hQ⟩ : ∃ Q : pm_Q, Q = (fun ρ M' => ρ = none ∧ Lay M' ∧ MF [140] [] M M' ∧ MxAt M' 140 (tR T) (tC T) (fun a => if a = row then tk p (tC T) (Y row) (Y n) c else Y a)) := ⟨_, rfl⟩
  rw [← hQ]
  have hR := hT.1
  have hC := hT.2.1
  obtain ⟨x, hx⟩ : ∃ x, x = Y row c := ⟨_, rfl⟩
  obtain ⟨y, hy⟩ : ∃ y, y = Y n c := ⟨_, rfl⟩
  have bx : x.natAbs ≤ 400000000 := by rw [hx]; exact b1 c hc
  have bY : y.natAbs ≤ 400000000 := by rw [hy]; exact b2 c hc
  obtain ⟨V, hV⟩ : ∃ V, V = vv (Y row) (Y n) c := ⟨_, rfl⟩
  have eV : ∀ i, V i = Y row i * y - Y n i * x := fun i => by rw [hV, hx, hy]; rfl
  have bV : ∀ i, i < tC T → (V i).natAbs ≤ 400000000000000000 := fun i hi => by rw [eV]; exact left_bd (b1 i hi) bY (b2 i hi) bx
  obtain ⟨S, hS⟩ : ∃ S, S = stv p V := ⟨_, rfl⟩
  have bS : ∀ i, i < tC T → (S i).natAbs ≤ 400000000000000000 := fun i hi => by
    rw [hS]
    unfold stv
    by_cases e : p = 0
    · rw [if_pos e]; exact bV i hi
    · rw [if_neg e]
      have := (nrm_ok (V i) (show 1 ≤ p by omega)).1
      omega
  have bG : ∀ i, i ≤ tC T → gV S i ≤ 400000000000000000 := fun i hi => gV_le (fun j hj => bS j (by omega))
  obtain ⟨g, hg⟩ : ∃ g, g = gV S (tC T) := ⟨_, rfl⟩
  have etk : ∀ i, tk p (tC T) (Y row) (Y n) c i = if p = 0 ∧ 1 < g then (S i).tdiv g else S i := fun i => by
    unfold tk
    rw [← hV]
    by_cases e : p = 0
    · have sv : S = V := by rw [hS]; funext j; unfold stv; rw [if_pos e]
      rw [if_pos e, ← sv, ← hg]
      by_cases e2 : g ≤ 1
      · rw [if_pos e2, if_neg (by omega)]
      · rw [if_neg e2, if_pos ⟨e, by omega⟩]
    · rw [if_neg e, if_neg (fun q => e q.1), hS]
      unfold stv
      rw [if_neg e]
  have lp2 : ∀ (k i : Nat) (v12 v13 : pm_V) (N : pm_M), i + k = tC T → Lay N → MF [140] [] M N → (∀ a j, a < tR T → j < tC T → pm_ct N 140 (6 * a + j) = if a = row then (if j < i ∧ p = 0 ∧ 1 < g then (S j).tdiv g else S j) else Y a j) → Wp (d + 1) 227 138 [(2, ((116 : Nat) : Int)), (0, (row : Int)), (0, (n : Int)), (0, (c : Int)), (0, (p : Int)), (1, x), (9, 0), (1, y), (9, 0), (1, (g : Int)), (9, 0), (0, (i : Int)), v12, v13] [] N mc ms Q := by
    intro k
    induction k with
    | zero =>
      intro i v12 v13 N hi lay mf hN
      have m2 : pm_ct N 116 2 = (tC T : Int) := by rw [mf.fd (by decide)]; exact hM0.2.1
      have e : i = tC T := by omega
      rw [e] at hN ⊢
      refine g_iload lk_227_138 rfl ?_
      refine g_aload_n lk_227_140 rfl ?_
      refine m_getfield (u := []) (M := N) lk_227_141 rfl (lay.on (by decide) rfl) (v := (tC T : Int)) m2 ?_
      refine g_icmp (t := 182) lk_227_144 rfl (by first | (unfold pm_inI; omega) | exact pm_and_in _ _ | exact pm_shr_in _ _ | exact pm_or_in _ _ | exact pm_xor_in _ _ | exact pm_shl_in _ _ | exact pm_cmp_in _ _ | exact pm_b8_in _ | (unfold pm_inI; split <;> omega)) (by first | (unfold pm_inI; omega) | exact pm_and_in _ _ | exact pm_shr_in _ _ | exact pm_or_in _ _ | exact pm_xor_in _ _ | exact pm_shl_in _ _ | exact pm_cmp_in _ _ | exact pm_b8_in _ | (unfold pm_inI; split <;> omega)) (fun h1 => ?_) (fun h1 => ?_)
      · replace h1 : (tC T : Int) ≤ (tC T : Int) := h1
        refine g_return lk_227_182 ?_
        rw [hQ]
        refine ⟨rfl, lay, mf, fun a j h1 h2 => ?_⟩
        show pm_ct N 140 (6 * a + j) = (if a = row then tk p (tC T) (Y row) (Y n) c else Y a) j
        rw [hN a j h1 h2]
        by_cases q : a = row
        · rw [if_pos q, if_pos q, etk]
          by_cases w : p = 0 ∧ 1 < g
          · rw [if_pos w, if_pos ⟨h2, w⟩]
          · rw [if_neg w, if_neg (fun z => w z.2)]
        · rw [if_neg q, if_neg q]
      · replace h1 : ¬ ((tC T : Int) ≤ (tC T : Int)) := h1
        omega
    | succ k ih =>
      intro i v12 v13 N hi lay mf hN
      have m2 : pm_ct N 116 2 = (tC T : Int) := by rw [mf.fd (by decide)]; exact hM0.2.1
      have bg := bG (tC T) (Nat.le_refl _)
      rw [← hg] at bg
      obtain ⟨q, hq1, hq2, hq3, hq4, hq5⟩ := cmpz (z := (g : Int)) (w := 1) (by unfold pm_inL; omega) (by unfold pm_inL; omega)
      by_cases w : p = 0 ∧ 1 < g
      · obtain ⟨j1, hj1⟩ : ∃ j, j = 6 * row + i := ⟨_, rfl⟩
        have ej1 : (6 : Int) * (row : Int) + (i : Int) = (j1 : Int) := by omega
        have z1 := hN row i hr (by omega)
        rw [if_pos rfl, if_neg (by omega), ← hj1] at z1
        have bs := bS i (by omega)
        obtain ⟨s, hs⟩ : ∃ s, s = S i := ⟨_, rfl⟩
        rw [← hs] at z1 bs
        have er : (pm_wL s).tdiv (pm_wL (g : Int)) = s.tdiv g := by rw [pm_wL_of (inL_of bs), pm_wL_of (by unfold pm_inL; omega)]
        have bz : ¬ pm_wL (g : Int) = 0 := by rw [pm_wL_of (by unfold pm_inL; omega)]; omega
        have go2 : ∀ (N' : pm_M), N' = Mu [(140, pm_upd (pm_ct N 140) j1 (s.tdiv g))] N → Lay N' → Wp (d + 1) 227 138 [(2, ((116 : Nat) : Int)), (0, (row : Int)), (0, (n : Int)), (0, (c : Int)), (0, (p : Int)), (1, x), (9, 0), (1, y), (9, 0), (1, (g : Int)), (9, 0), (0, (i : Int) + 1), v12, v13] [] N' mc ms Q := fun N' hN' l1 => by
          refine ih (i + 1) v12 v13 N' (by omega) l1 (by rw [hN']; exact mf.trans (MF.mu _ _ rfl (fun _ _ => rfl))) (fun a j h1 h2 => ?_)
          rw [hN', Mu_ct]
          show pm_upd (pm_ct N 140) j1 (s.tdiv g) (6 * a + j) = _
          by_cases q1 : a = row ∧ j = i
          · rw [q1.1, q1.2, ← hj1, pm_upd_eq, if_pos rfl, if_pos ⟨by omega, w⟩, hs]
          · rw [pm_upd_ne (by omega), hN a j h1 h2]
            by_cases q2 : a = row
            · rw [if_pos q2, if_pos q2]
              by_cases q3 : j < i
              · rw [if_pos ⟨q3, w⟩, if_pos ⟨by omega, w⟩]
              · rw [if_neg (fun z => q3 z.1), if_neg (by omega)]
            · rw [if_neg q2, if_neg q2]
        clear ih
        refine g_iload lk_227_138 rfl ?_
        refine g_aload_n lk_227_140 rfl ?_
        refine m_getfield (u := []) (M := N) lk_227_141 rfl (lay.on (by decide) rfl) (v := (tC T : Int)) m2 ?_
        refine g_icmp (t := 182) lk_227_144 rfl (by first | (unfold pm_inI; omega) | exact pm_and_in _ _ | exact pm_shr_in _ _ | exact pm_or_in _ _ | exact pm_xor_in _ _ | exact pm_shl_in _ _ | exact pm_cmp_in _ _ | exact pm_b8_in _ | (unfold pm_inI; split <;> omega)) (by first | (unfold pm_inI; omega) | exact pm_and_in _ _ | exact pm_shr_in _ _ | exact pm_or_in _ _ | exact pm_xor_in _ _ | exact pm_shl_in _ _ | exact pm_cmp_in _ _ | exact pm_b8_in _ | (unfold pm_inI; split <;> omega)) (fun h1 => ?_) (fun h1 => ?_)
        · replace h1 : (tC T : Int) ≤ (i : Int) := h1
          omega
        · replace h1 : ¬ ((tC T : Int) ≤ (i : Int)) := h1
          refine g_lload lk_227_147 rfl ?_
          refine g_lconst lk_227_149 ?_
          refine g_lcmp lk_227_150 ?_
          refine g_top (z := (pm_cmp (pm_wL (g : Int)) (pm_wL 1))) (z' := q) (hq1) ?_
          refine g_if (t := 182) lk_227_151 rfl (by first | (unfold pm_inI; omega) | exact pm_and_in _ _ | exact pm_shr_in _ _ | exact pm_or_in _ _ | exact pm_xor_in _ _ | exact pm_shl_in _ _ | exact pm_cmp_in _ _ | exact pm_b8_in _ | (unfold pm_inI; split <;> omega)) (fun h2 => ?_) (fun h2 => ?_)
          · replace h2 : q ≤ 0 := h2
            omega
          · replace h2 : ¬ (q ≤ 0) := h2
            refine g_iload lk_227_154 rfl ?_
            refine g_if (t := 182) lk_227_156 rfl (by first | (unfold pm_inI; omega) | exact pm_and_in _ _ | exact pm_shr_in _ _ | exact pm_or_in _ _ | exact pm_xor_in _ _ | exact pm_shl_in _ _ | exact pm_cmp_in _ _ | exact pm_b8_in _ | (unfold pm_inI; split <;> omega)) (fun h3 => ?_) (fun h3 => ?_)
            · replace h3 : ¬ (p : Int) = 0 := h3
              omega
            · replace h3 : ¬ (¬ (p : Int) = 0) := h3
              refine g_aload_n lk_227_159 rfl ?_
              refine g_getfield lk_227_160 rfl (lay.on (by decide) rfl) (v := ((140 : Nat) : Int)) (lay.rf rfl) ?_
              refine g_bipush lk_227_163 ?_
              refine g_iload_n lk_227_165 rfl ?_
              refine g_imul lk_227_166 ?_
              refine g_iload lk_227_167 rfl ?_
              refine g_iadd lk_227_169 ?_
              refine g_top (z := ((6 * (row : Int)) + (i : Int))) (z' := (j1 : Int)) (ej1) ?_
              refine g_dup2 lk_227_170 rfl rfl ?_
              refine m_laload (u := []) (M := N) lk_227_171 (lay.ay (by decide) rfl) (by omega) (j := j1) (by omega) (v := s) z1 ?_
              refine g_lload lk_227_172 rfl ?_
              refine g_ldiv lk_227_174 ?_ ?_
              · exact bz
              refine g_top (z := ((pm_wL s).tdiv (pm_wL (g : Int)))) (z' := (s.tdiv g)) (er) ?_
              have lay4 : Lay (Mu [(140, pm_upd (pm_ct N 140) j1 (s.tdiv g))] N) := lay.muA (l := []) (a := 140) (f := pm_upd (pm_ct N 140) j1 (s.tdiv g)) rfl rfl
              refine m_lastore (u := []) (u' := [(140, pm_upd (pm_ct N 140) j1 (s.tdiv g))]) (M := N) lk_227_175 (lay.ay (by decide) rfl) (by omega) (j := j1) (by omega) rfl ?_
              refine g_iinc (ls' := [(2, ((116 : Nat) : Int)), (0, (row : Int)), (0, (n : Int)), (0, (c : Int)), (0, (p : Int)), (1, x), (9, 0), (1, y), (9, 0), (1, (g : Int)), (9, 0), (0, ((i : Int) + 1)), v12, v13]) lk_227_176 rfl rfl rfl ?_
              refine g_goto (t := 138) lk_227_179 rfl ?_
              exact go2 _ rfl lay4
      · have fin : ((none : Option pm_V) = none ∧ Lay N ∧ MF [140] [] M N ∧ MxAt N 140 (tR T) (tC T) (fun a => if a = row then tk p (tC T) (Y row) (Y n) c else Y a)) := ⟨rfl, lay, mf, fun a j h1 h2 => by
          show pm_ct N 140 (6 * a + j) = (if a = row then tk p (tC T) (Y row) (Y n) c else Y a) j
          rw [hN a j h1 h2]
          by_cases q : a = row
          · rw [if_pos q, if_pos q, etk, if_neg w, if_neg (fun z => w z.2)]
          · rw [if_neg q, if_neg q]⟩
        refine g_iload lk_227_138 rfl ?_
        refine g_aload_n lk_227_140 rfl ?_
        refine m_getfield (u := []) (M := N) lk_227_141 rfl (lay.on (by decide) rfl) (v := (tC T : Int)) m2 ?_
        refine g_icmp (t := 182) lk_227_144 rfl (by first | (unfold pm_inI; omega) | exact pm_and_in _ _ | exact pm_shr_in _ _ | exact pm_or_in _ _ | exact pm_xor_in _ _ | exact pm_shl_in _ _ | exact pm_cmp_in _ _ | exact pm_b8_in _ | (unfold pm_inI; split <;> omega)) (by first | (unfold pm_inI; omega) | exact pm_and_in _ _ | exact pm_shr_in _ _ | exact pm_or_in _ _ | exact pm_xor_in _ _ | exact pm_shl_in _ _ | exact pm_cmp_in _ _ | exact pm_b8_in _ | (unfold pm_inI; split <;> omega)) (fun h1 => ?_) (fun h1 => ?_)
        · replace h1 : (tC T : Int) ≤ (i : Int) := h1
          refine g_return lk_227_182 ?_
          rw [hQ]
          exact fin
        · replace h1 : ¬ ((tC T : Int) ≤ (i : Int)) := h1
          refine g_lload lk_227_147 rfl ?_
          refine g_lconst lk_227_149 ?_
          refine g_lcmp lk_227_150 ?_
          refine g_top (z := (pm_cmp (pm_wL (g : Int)) (pm_wL 1))) (z' := q) (hq1) ?_
          refine g_if (t := 182) lk_227_151 rfl (by first | (unfold pm_inI; omega) | exact pm_and_in _ _ | exact pm_shr_in _ _ | exact pm_or_in _ _ | exact pm_xor_in _ _ | exact pm_shl_in _ _ | exact pm_cmp_in _ _ | exact pm_b8_in _ | (unfold pm_inI; split <;> omega)) (fun h2 => ?_) (fun h2 => ?_)
          · replace h2 : q ≤ 0 := h2
            refine g_return lk_227_182 ?_
            rw [hQ]
            exact fin
          · replace h2 : ¬ (q ≤ 0) := h2
            refine g_iload lk_227_154 rfl ?_
            refine g_if (t := 182) lk_227_156 rfl (by first | (unfold pm_inI; omega) | exact pm_and_in _ _ | exact pm_shr_in _ _ | exact pm_or_in _ _ | exact pm_xor_in _ _ | exact pm_shl_in _ _ | exact pm_cmp_in _ _ | exact pm_b8_in _ | (unfold pm_inI; split <;> omega)) (fun h3 => ?_) (fun h3 => ?_)
            · replace h3 : ¬ (p : Int) = 0 := h3
              refine g_return lk_227_182 ?_
              rw [hQ]
              exact fin
            · replace h3 : ¬ (¬ (p : Int) = 0) := h3
              omega
  have lp1 : ∀ (k i : Nat) (v12 v13 : pm_V) (N : pm_M), i + k = tC T → Lay N → MF [140] [] M N → (∀ a j, a < tR T → j < tC T → pm_ct N 140 (6 * a + j) = if a = row ∧ j < i then S j else Y a j) → Wp (d + 1) 227 32 [(2, ((116 : Nat) : Int)), (0, (row : Int)), (0, (n : Int)), (0, (c : Int)), (0, (p : Int)), (1, x), (9, 0), (1, y), (9, 0), (1, ((gV S i : Nat) : Int)), (9, 0), (0, (i : Int)), v12, v13] [] N mc ms Q := by
    intro k
    induction k with
    | zero =>
      intro i v12 v13 N hi lay mf hN
      have m2 : pm_ct N 116 2 = (tC T : Int) := by rw [mf.fd (by decide)]; exact hM0.2.1
      have e : i = tC T := by omega
      rw [e] at hN ⊢
      rw [← hg]
      refine g_iload lk_227_32 rfl ?_
      refine g_aload_n lk_227_34 rfl ?_
      refine m_getfield (u := []) (M := N) lk_227_35 rfl (lay.on (by decide) rfl) (v := (tC T : Int)) m2 ?_
      refine g_icmp (t := 135) lk_227_38 rfl (by first | (unfold pm_inI; omega) | exact pm_and_in _ _ | exact pm_shr_in _ _ | exact pm_or_in _ _ | exact pm_xor_in _ _ | exact pm_shl_in _ _ | exact pm_cmp_in _ _ | exact pm_b8_in _ | (unfold pm_inI; split <;> omega)) (by first | (unfold pm_inI; omega) | exact pm_and_in _ _ | exact pm_shr_in _ _ | exact pm_or_in _ _ | exact pm_xor_in _ _ | exact pm_shl_in _ _ | exact pm_cmp_in _ _ | exact pm_b8_in _ | (unfold pm_inI; split <;> omega)) (fun h1 => ?_) (fun h1 => ?_)
      · replace h1 : (tC T : Int) ≤ (tC T : Int) := h1
        refine g_iconst lk_227_135 ?_
        refine g_istore (ls' := [(2, ((116 : Nat) : Int)), (0, (row : Int)), (0, (n : Int)), (0, (c : Int)), (0, (p : Int)), (1, x), (9, 0), (1, y), (9, 0), (1, (g : Int)), (9, 0), (0, 0), v12, v13]) lk_227_136 rfl rfl ?_
        exact lp2 (tC T) 0 _ _ N (by omega) lay mf (fun a j h1 h2 => by
          rw [hN a j h1 h2]
          by_cases q : a = row
          · rw [if_pos ⟨q, h2⟩, if_pos q, if_neg (by omega)]
          · rw [if_neg (fun z => q z.1), if_neg q])
      · replace h1 : ¬ ((tC T : Int) ≤ (tC T : Int)) := h1
        omega
    | succ k ih =>
      intro i v12 v13 N hi lay mf hN
      have m2 : pm_ct N 116 2 = (tC T : Int) := by rw [mf.fd (by decide)]; exact hM0.2.1
      obtain ⟨j1, hj1⟩ : ∃ j, j = 6 * row + i := ⟨_, rfl⟩
      obtain ⟨j2, hj2⟩ : ∃ j, j = 6 * n + i := ⟨_, rfl⟩
      have ej1 : (6 : Int) * (row : Int) + (i : Int) = (j1 : Int) := by omega
      have ej2 : (6 : Int) * (n : Int) + (i : Int) = (j2 : Int) := by omega
      have z1 := hN row i hr (by omega)
      have z2 := hN n i (by omega) (by omega)
      rw [if_neg (by omega), ← hj1] at z1
      rw [if_neg (by omega), ← hj2] at z2
      have lb := bV i (by omega)
      have sb := bS i (by omega)
      have gb := bG i (by omega)
      have elf : Y row i * y - Y n i * x = V i := (eV i).symm
      obtain ⟨y1, hy1⟩ : ∃ y, y = Y row i := ⟨_, rfl⟩
      obtain ⟨y2, hy2⟩ : ∃ y, y = Y n i := ⟨_, rfl⟩
      rw [← hy1] at z1 elf
      rw [← hy2] at z2 elf
      have es : S i = if p = 0 then V i else nrm (V i) p := by rw [hS]; rfl
      have gc := fun (K : pm_M) => c_Mo_gcd (d := d) (mc := 0) (ms := 0) (M := K) (a := ((gV S i : Nat) : Int)) (b := S i) (by omega) sb
      have gs : gV S (i + 1) = Nat.gcd (gV S i) (S i).natAbs := rfl
      rw [Int.natAbs_natCast, ← gs] at gc
      obtain ⟨s, hs⟩ : ∃ s, s = S i := ⟨_, rfl⟩
      obtain ⟨lf, hlf⟩ : ∃ s, s = V i := ⟨_, rfl⟩
      rw [← hs] at es gc sb
      rw [← hlf] at es lb elf
      obtain ⟨ga, hga⟩ : ∃ g, g = gV S i := ⟨_, rfl⟩
      rw [← hga] at gc gb ⊢
      have go2 : ∀ (N' : pm_M) (w12 : pm_V), N' = Mu [(140, pm_upd (pm_ct N 140) j1 s)] N → Lay N' → Wp (d + 1) 227 32 [(2, ((116 : Nat) : Int)), (0, (row : Int)), (0, (n : Int)), (0, (c : Int)), (0, (p : Int)), (1, x), (9, 0), (1, y), (9, 0), (1, ((gV S (i + 1) : Nat) : Int)), (9, 0), (0, (i : Int) + 1), w12, (9, 0)] [] N' mc ms Q := fun N' w12 hN' l1 => by
        refine ih (i + 1) w12 (9, 0) N' (by omega) l1 (by rw [hN']; exact mf.trans (MF.mu _ _ rfl (fun _ _ => rfl))) (fun a j h1 h2 => ?_)
        rw [hN', Mu_ct]
        show pm_upd (pm_ct N 140) j1 s (6 * a + j) = _
        by_cases q1 : a = row ∧ j = i
        · rw [q1.1, q1.2, ← hj1, pm_upd_eq, if_pos ⟨rfl, by omega⟩, hs]
        · rw [pm_upd_ne (by omega), hN a j h1 h2]
          by_cases q2 : a = row ∧ j < i
          · rw [if_pos q2, if_pos ⟨q2.1, by omega⟩]
          · rw [if_neg q2, if_neg (by omega)]
      clear ih
      by_cases p0 : p = 0
      · rw [if_pos p0] at es
        rw [es] at gc go2
        refine g_iload lk_227_32 rfl ?_
        refine g_aload_n lk_227_34 rfl ?_
        refine m_getfield (u := []) (M := N) lk_227_35 rfl (lay.on (by decide) rfl) (v := (tC T : Int)) m2 ?_
        refine g_icmp (t := 135) lk_227_38 rfl (by first | (unfold pm_inI; omega) | exact pm_and_in _ _ | exact pm_shr_in _ _ | exact pm_or_in _ _ | exact pm_xor_in _ _ | exact pm_shl_in _ _ | exact pm_cmp_in _ _ | exact pm_b8_in _ | (unfold pm_inI; split <;> omega)) (by first | (unfold pm_inI; omega) | exact pm_and_in _ _ | exact pm_shr_in _ _ | exact pm_or_in _ _ | exact pm_xor_in _ _ | exact pm_shl_in _ _ | exact pm_cmp_in _ _ | exact pm_b8_in _ | (unfold pm_inI; split <;> omega)) (fun h1 => ?_) (fun h1 => ?_)
        · replace h1 : (tC T : Int) ≤ (i : Int) := h1
          omega
        · replace h1 : ¬ ((tC T : Int) ≤ (i : Int)) := h1
          refine g_aload_n lk_227_41 rfl ?_
          refine g_getfield lk_227_42 rfl (lay.on (by decide) rfl) (v := ((140 : Nat) : Int)) (lay.rf rfl) ?_
          refine g_bipush lk_227_45 ?_
          refine g_iload_n lk_227_47 rfl ?_
          refine g_imul lk_227_48 ?_
          refine g_iload lk_227_49 rfl ?_
          refine g_iadd lk_227_51 ?_
          refine g_top (z := ((6 * (row : Int)) + (i : Int))) (z' := (j1 : Int)) (ej1) ?_
          refine m_laload (u := []) (M := N) lk_227_52 (lay.ay (by decide) rfl) (by omega) (j := j1) (by omega) (v := y1) z1 ?_
          refine g_lload lk_227_53 rfl ?_
          refine g_lmul lk_227_55 ?_
          refine g_aload_n lk_227_56 rfl ?_
          refine g_getfield lk_227_57 rfl (lay.on (by decide) rfl) (v := ((140 : Nat) : Int)) (lay.rf rfl) ?_
          refine g_bipush lk_227_60 ?_
          refine g_iload_n lk_227_62 rfl ?_
          refine g_imul lk_227_63 ?_
          refine g_iload lk_227_64 rfl ?_
          refine g_iadd lk_227_66 ?_
          refine g_top (z := ((6 * (n : Int)) + (i : Int))) (z' := (j2 : Int)) (ej2) ?_
          refine m_laload (u := []) (M := N) lk_227_67 (lay.ay (by decide) rfl) (by omega) (j := j2) (by omega) (v := y2) z2 ?_
          refine g_lload lk_227_68 rfl ?_
          refine g_lmul lk_227_70 ?_
          refine g_lsub lk_227_71 ?_
          refine g_top (z := ((y1 * y) - (y2 * x))) (z' := lf) (elf) ?_
          refine g_lstore (ls' := [(2, ((116 : Nat) : Int)), (0, (row : Int)), (0, (n : Int)), (0, (c : Int)), (0, (p : Int)), (1, x), (9, 0), (1, y), (9, 0), (1, (ga : Int)), (9, 0), (0, (i : Int)), (1, lf), (9, 0)]) lk_227_72 rfl rfl ?_
          refine g_aload_n lk_227_74 rfl ?_
          refine g_getfield lk_227_75 rfl (lay.on (by decide) rfl) (v := ((140 : Nat) : Int)) (lay.rf rfl) ?_
          refine g_bipush lk_227_78 ?_
          refine g_iload_n lk_227_80 rfl ?_
          refine g_imul lk_227_81 ?_
          refine g_iload lk_227_82 rfl ?_
          refine g_iadd lk_227_84 ?_
          refine g_top (z := ((6 * (row : Int)) + (i : Int))) (z' := (j1 : Int)) (ej1) ?_
          refine g_iload lk_227_85 rfl ?_
          refine g_if (t := 95) lk_227_87 rfl (by first | (unfold pm_inI; omega) | exact pm_and_in _ _ | exact pm_shr_in _ _ | exact pm_or_in _ _ | exact pm_xor_in _ _ | exact pm_shl_in _ _ | exact pm_cmp_in _ _ | exact pm_b8_in _ | (unfold pm_inI; split <;> omega)) (fun h2 => ?_) (fun h2 => ?_)
          · replace h2 : ¬ (p : Int) = 0 := h2
            omega
          · replace h2 : ¬ (¬ (p : Int) = 0) := h2
            refine g_lload lk_227_90 rfl ?_
            refine g_goto (t := 109) lk_227_92 rfl ?_
            have lay3 : Lay (Mu [(140, pm_upd (pm_ct N 140) j1 lf)] N) := lay.muA (l := []) (a := 140) (f := pm_upd (pm_ct N 140) j1 lf) rfl rfl
            refine m_lastore (u := []) (u' := [(140, pm_upd (pm_ct N 140) j1 lf)]) (M := N) lk_227_109 (lay.ay (by decide) rfl) (by omega) (j := j1) (by omega) rfl ?_
            refine g_lload lk_227_110 rfl ?_
            refine g_aload_n lk_227_112 rfl ?_
            refine g_getfield lk_227_113 rfl (lay3.on (by decide) rfl) (v := ((140 : Nat) : Int)) (lay3.rf rfl) ?_
            refine g_bipush lk_227_116 ?_
            refine g_iload_n lk_227_118 rfl ?_
            refine g_imul lk_227_119 ?_
            refine g_iload lk_227_120 rfl ?_
            refine g_iadd lk_227_122 ?_
            refine g_top (z := ((6 * (row : Int)) + (i : Int))) (z' := (j1 : Int)) (ej1) ?_
            refine m_laload (u := [(140, pm_upd (pm_ct N 140) j1 lf)]) (M := N) lk_227_123 (lay3.ay (by decide) rfl) (by omega) (j := j1) (by omega) (v := lf) (by first | rfl | exact pm_upd_eq _ _ _) ?_
            refine g_static (Qc := _) lk_227_124 (by decide) rfl (Nat.le_of_ble_eq_true rfl) rfl rfl (Nat.le_of_ble_eq_true rfl) (Nat.le_of_ble_eq_true rfl) (Nat.zero_le _) (Nat.zero_le _) (gc _) ?_
            rintro _ N4 ⟨rfl, hN4⟩
            rw [hN4]
            show Wp _ 227 127 [(2, ((116 : Nat) : Int)), (0, (row : Int)), (0, (n : Int)), (0, (c : Int)), (0, (p : Int)), (1, x), (9, 0), (1, y), (9, 0), (1, (ga : Int)), (9, 0), (0, (i : Int)), (1, lf), (9, 0)] [(1, ((gV S (i + 1) : Nat) : Int))] (Mu [(140, pm_upd (pm_ct N 140) j1 lf)] N) _ _ _
            refine g_lstore (ls' := [(2, ((116 : Nat) : Int)), (0, (row : Int)), (0, (n : Int)), (0, (c : Int)), (0, (p : Int)), (1, x), (9, 0), (1, y), (9, 0), (1, ((gV S (i + 1) : Nat) : Int)), (9, 0), (0, (i : Int)), (1, lf), (9, 0)]) lk_227_127 rfl rfl ?_
            refine g_iinc (ls' := [(2, ((116 : Nat) : Int)), (0, (row : Int)), (0, (n : Int)), (0, (c : Int)), (0, (p : Int)), (1, x), (9, 0), (1, y), (9, 0), (1, ((gV S (i + 1) : Nat) : Int)), (9, 0), (0, ((i : Int) + 1)), (1, lf), (9, 0)]) lk_227_129 rfl rfl rfl ?_
            refine g_goto (t := 32) lk_227_132 rfl ?_
            exact go2 _ _ rfl lay3
      · rw [if_neg p0] at es
        have w1 : (pm_wL lf).tmod (pm_wL (p : Int)) = lf.tmod p := by rw [pm_wL_of (inL_of lb), pm_wL_of (by unfold pm_inL; omega)]
        have tb := tm_bd lf (show 1 ≤ p by omega)
        have w2 : (pm_wL (lf.tmod p + (p : Int))).tmod (pm_wL (p : Int)) = s := by
          rw [pm_wL_of (by unfold pm_inL; omega), pm_wL_of (by unfold pm_inL; omega), es]; rfl
        have bz : ¬ pm_wL (p : Int) = 0 := by rw [pm_wL_of (by unfold pm_inL; omega)]; omega
        refine g_iload lk_227_32 rfl ?_
        refine g_aload_n lk_227_34 rfl ?_
        refine m_getfield (u := []) (M := N) lk_227_35 rfl (lay.on (by decide) rfl) (v := (tC T : Int)) m2 ?_
        refine g_icmp (t := 135) lk_227_38 rfl (by first | (unfold pm_inI; omega) | exact pm_and_in _ _ | exact pm_shr_in _ _ | exact pm_or_in _ _ | exact pm_xor_in _ _ | exact pm_shl_in _ _ | exact pm_cmp_in _ _ | exact pm_b8_in _ | (unfold pm_inI; split <;> omega)) (by first | (unfold pm_inI; omega) | exact pm_and_in _ _ | exact pm_shr_in _ _ | exact pm_or_in _ _ | exact pm_xor_in _ _ | exact pm_shl_in _ _ | exact pm_cmp_in _ _ | exact pm_b8_in _ | (unfold pm_inI; split <;> omega)) (fun h1 => ?_) (fun h1 => ?_)
        · replace h1 : (tC T : Int) ≤ (i : Int) := h1
          omega
        · replace h1 : ¬ ((tC T : Int) ≤ (i : Int)) := h1
          refine g_aload_n lk_227_41 rfl ?_
          refine g_getfield lk_227_42 rfl (lay.on (by decide) rfl) (v := ((140 : Nat) : Int)) (lay.rf rfl) ?_
          refine g_bipush lk_227_45 ?_
          refine g_iload_n lk_227_47 rfl ?_
          refine g_imul lk_227_48 ?_
          refine g_iload lk_227_49 rfl ?_
          refine g_iadd lk_227_51 ?_
          refine g_top (z := ((6 * (row : Int)) + (i : Int))) (z' := (j1 : Int)) (ej1) ?_
          refine m_laload (u := []) (M := N) lk_227_52 (lay.ay (by decide) rfl) (by omega) (j := j1) (by omega) (v := y1) z1 ?_
          refine g_lload lk_227_53 rfl ?_
          refine g_lmul lk_227_55 ?_
          refine g_aload_n lk_227_56 rfl ?_
          refine g_getfield lk_227_57 rfl (lay.on (by decide) rfl) (v := ((140 : Nat) : Int)) (lay.rf rfl) ?_
          refine g_bipush lk_227_60 ?_
          refine g_iload_n lk_227_62 rfl ?_
          refine g_imul lk_227_63 ?_
          refine g_iload lk_227_64 rfl ?_
          refine g_iadd lk_227_66 ?_
          refine g_top (z := ((6 * (n : Int)) + (i : Int))) (z' := (j2 : Int)) (ej2) ?_
          refine m_laload (u := []) (M := N) lk_227_67 (lay.ay (by decide) rfl) (by omega) (j := j2) (by omega) (v := y2) z2 ?_
          refine g_lload lk_227_68 rfl ?_
          refine g_lmul lk_227_70 ?_
          refine g_lsub lk_227_71 ?_
          refine g_top (z := ((y1 * y) - (y2 * x))) (z' := lf) (elf) ?_
          refine g_lstore (ls' := [(2, ((116 : Nat) : Int)), (0, (row : Int)), (0, (n : Int)), (0, (c : Int)), (0, (p : Int)), (1, x), (9, 0), (1, y), (9, 0), (1, (ga : Int)), (9, 0), (0, (i : Int)), (1, lf), (9, 0)]) lk_227_72 rfl rfl ?_
          refine g_aload_n lk_227_74 rfl ?_
          refine g_getfield lk_227_75 rfl (lay.on (by decide) rfl) (v := ((140 : Nat) : Int)) (lay.rf rfl) ?_
          refine g_bipush lk_227_78 ?_
          refine g_iload_n lk_227_80 rfl ?_
          refine g_imul lk_227_81 ?_
          refine g_iload lk_227_82 rfl ?_
          refine g_iadd lk_227_84 ?_
          refine g_top (z := ((6 * (row : Int)) + (i : Int))) (z' := (j1 : Int)) (ej1) ?_
          refine g_iload lk_227_85 rfl ?_
          refine g_if (t := 95) lk_227_87 rfl (by first | (unfold pm_inI; omega) | exact pm_and_in _ _ | exact pm_shr_in _ _ | exact pm_or_in _ _ | exact pm_xor_in _ _ | exact pm_shl_in _ _ | exact pm_cmp_in _ _ | exact pm_b8_in _ | (unfold pm_inI; split <;> omega)) (fun h2 => ?_) (fun h2 => ?_)
          · replace h2 : ¬ (p : Int) = 0 := h2
            refine g_lload lk_227_95 rfl ?_
            refine g_iload lk_227_97 rfl ?_
            refine g_i2l lk_227_99 (by unfold pm_inI; omega) ?_
            refine g_lrem lk_227_100 ?_ ?_
            · exact bz
            refine g_top (z := ((pm_wL lf).tmod (pm_wL (p : Int)))) (z' := (lf.tmod p)) (w1) ?_
            refine g_iload lk_227_101 rfl ?_
            refine g_i2l lk_227_103 (by unfold pm_inI; omega) ?_
            refine g_ladd lk_227_104 ?_
            refine g_iload lk_227_105 rfl ?_
            refine g_i2l lk_227_107 (by unfold pm_inI; omega) ?_
            refine g_lrem lk_227_108 ?_ ?_
            · exact bz
            refine g_top (z := ((pm_wL ((lf.tmod p) + (p : Int))).tmod (pm_wL (p : Int)))) (z' := s) (w2) ?_
            have lay3 : Lay (Mu [(140, pm_upd (pm_ct N 140) j1 s)] N) := lay.muA (l := []) (a := 140) (f := pm_upd (pm_ct N 140) j1 s) rfl rfl
            refine m_lastore (u := []) (u' := [(140, pm_upd (pm_ct N 140) j1 s)]) (M := N) lk_227_109 (lay.ay (by decide) rfl) (by omega) (j := j1) (by omega) rfl ?_
            refine g_lload lk_227_110 rfl ?_
            refine g_aload_n lk_227_112 rfl ?_
            refine g_getfield lk_227_113 rfl (lay3.on (by decide) rfl) (v := ((140 : Nat) : Int)) (lay3.rf rfl) ?_
            refine g_bipush lk_227_116 ?_
            refine g_iload_n lk_227_118 rfl ?_
            refine g_imul lk_227_119 ?_
            refine g_iload lk_227_120 rfl ?_
            refine g_iadd lk_227_122 ?_
            refine g_top (z := ((6 * (row : Int)) + (i : Int))) (z' := (j1 : Int)) (ej1) ?_
            refine m_laload (u := [(140, pm_upd (pm_ct N 140) j1 s)]) (M := N) lk_227_123 (lay3.ay (by decide) rfl) (by omega) (j := j1) (by omega) (v := s) (by first | rfl | exact pm_upd_eq _ _ _) ?_
            refine g_static (Qc := _) lk_227_124 (by decide) rfl (Nat.le_of_ble_eq_true rfl) rfl rfl (Nat.le_of_ble_eq_true rfl) (Nat.le_of_ble_eq_true rfl) (Nat.zero_le _) (Nat.zero_le _) (gc _) ?_
            rintro _ N4 ⟨rfl, hN4⟩
            rw [hN4]
            show Wp _ 227 127 [(2, ((116 : Nat) : Int)), (0, (row : Int)), (0, (n : Int)), (0, (c : Int)), (0, (p : Int)), (1, x), (9, 0), (1, y), (9, 0), (1, (ga : Int)), (9, 0), (0, (i : Int)), (1, lf), (9, 0)] [(1, ((gV S (i + 1) : Nat) : Int))] (Mu [(140, pm_upd (pm_ct N 140) j1 s)] N) _ _ _
            refine g_lstore (ls' := [(2, ((116 : Nat) : Int)), (0, (row : Int)), (0, (n : Int)), (0, (c : Int)), (0, (p : Int)), (1, x), (9, 0), (1, y), (9, 0), (1, ((gV S (i + 1) : Nat) : Int)), (9, 0), (0, (i : Int)), (1, lf), (9, 0)]) lk_227_127 rfl rfl ?_
            refine g_iinc (ls' := [(2, ((116 : Nat) : Int)), (0, (row : Int)), (0, (n : Int)), (0, (c : Int)), (0, (p : Int)), (1, x), (9, 0), (1, y), (9, 0), (1, ((gV S (i + 1) : Nat) : Int)), (9, 0), (0, ((i : Int) + 1)), (1, lf), (9, 0)]) lk_227_129 rfl rfl rfl ?_
            refine g_goto (t := 32) lk_227_132 rfl ?_
            exact go2 _ _ rfl lay3
          · replace h2 : ¬ (¬ (p : Int) = 0) := h2
            omega
  obtain ⟨j1, hj1⟩ : ∃ j, j = 6 * row + c := ⟨_, rfl⟩
  obtain ⟨j2, hj2⟩ : ∃ j, j = 6 * n + c := ⟨_, rfl⟩
  have ej1 : (6 : Int) * (row : Int) + (c : Int) = (j1 : Int) := by omega
  have ej2 : (6 : Int) * (n : Int) + (c : Int) = (j2 : Int) := by omega
  have z1 : pm_ct M 140 j1 = x := by rw [hj1, hx]; exact hY row c hr hc
  have z2 : pm_ct M 140 j2 = y := by rw [hj2, hy]; exact hY n c (by omega) hc
  show Wp (d + 1) 227 0 [(2, ((116 : Nat) : Int)), (0, (row : Int)), (0, (n : Int)), (0, (c : Int)), (0, (p : Int)), (9, 0), (9, 0), (9, 0), (9, 0), (9, 0), (9, 0), (9, 0), (9, 0), (9, 0)] [] M mc ms Q
  refine g_aload_n lk_227_0 rfl ?_
  refine g_getfield lk_227_1 rfl (lay0.on (by decide) rfl) (v := ((140 : Nat) : Int)) (lay0.rf rfl) ?_
  refine g_bipush lk_227_4 ?_
  refine g_iload_n lk_227_6 rfl ?_
  refine g_imul lk_227_7 ?_
  refine g_iload_n lk_227_8 rfl ?_
  refine g_iadd lk_227_9 ?_
  refine g_top (z := ((6 * (row : Int)) + (c : Int))) (z' := (j1 : Int)) (ej1) ?_
  refine m_laload (u := []) (M := M) lk_227_10 (lay0.ay (by decide) rfl) (by omega) (j := j1) (by omega) (v := x) z1 ?_
  refine g_lstore (ls' := [(2, ((116 : Nat) : Int)), (0, (row : Int)), (0, (n : Int)), (0, (c : Int)), (0, (p : Int)), (1, x), (9, 0), (9, 0), (9, 0), (9, 0), (9, 0), (9, 0), (9, 0), (9, 0)]) lk_227_11 rfl rfl ?_
  refine g_aload_n lk_227_13 rfl ?_
  refine g_getfield lk_227_14 rfl (lay0.on (by decide) rfl) (v := ((140 : Nat) : Int)) (lay0.rf rfl) ?_
  refine g_bipush lk_227_17 ?_
  refine g_iload_n lk_227_19 rfl ?_
  refine g_imul lk_227_20 ?_
  refine g_iload_n lk_227_21 rfl ?_
  refine g_iadd lk_227_22 ?_
  refine g_top (z := ((6 * (n : Int)) + (c : Int))) (z' := (j2 : Int)) (ej2) ?_
  refine m_laload (u := []) (M := M) lk_227_23 (lay0.ay (by decide) rfl) (by omega) (j := j2) (by omega) (v := y) z2 ?_
  refine g_lstore (ls' := [(2, ((116 : Nat) : Int)), (0, (row : Int)), (0, (n : Int)), (0, (c : Int)), (0, (p : Int)), (1, x), (9, 0), (1, y), (9, 0), (9, 0), (9, 0), (9, 0), (9, 0), (9, 0)]) lk_227_24 rfl rfl ?_
  refine g_lconst lk_227_26 ?_
  refine g_lstore (ls' := [(2, ((116 : Nat) : Int)), (0, (row : Int)), (0, (n : Int)), (0, (c : Int)), (0, (p : Int)), (1, x), (9, 0), (1, y), (9, 0), (1, 0), (9, 0), (9, 0), (9, 0), (9, 0)]) lk_227_27 rfl rfl ?_
  refine g_iconst lk_227_29 ?_
  refine g_istore (ls' := [(2, ((116 : Nat) : Int)), (0, (row : Int)), (0, (n : Int)), (0, (c : Int)), (0, (p : Int)), (1, x), (9, 0), (1, y), (9, 0), (1, 0), (9, 0), (0, 0), (9, 0), (9, 0)]) lk_227_30 rfl rfl ?_
  exact lp1 (tC T) 0 _ _ M (by omega) lay0 (MF.refl _ _ _) (fun a j h1 h2 => by rw [if_neg (by omega)]; exact hY a j h1 h2)
