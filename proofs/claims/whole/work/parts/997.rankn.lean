/-! ===== rank: the model's calls ===== -/
def tkU (p C : Nat) (Y : Mx) (n c u : Nat) : Mx := fun a => if n < a ∧ a < u then tk p C (Y a) (Y n) c else Y a
set_option maxHeartbeats 16000000 in
theorem c_Mo_rankBy {d mc ms : Nat} {M : pm_M} (lay0 : Lay M) {T : Tab} (hT : TabOK T) (hM0 : MoAt M T) {p : Nat} (hp : p ≤ 97) (hp2 : p = 0 ∨ 2 ≤ p) (hE : 1 ≤ p → Eu p) :
    pm_E (d + 2) 228 [(2, ((116 : Nat) : Int)), (0, (p : Int))] M mc ms (fun ρ M' => ρ = some (0, (rkT T p : Int)) ∧ Lay M' ∧ MF [140] [] M M') := by
  obtain ⟨Q, hQ⟩ : ∃ Q : pm_Q, Q = (fun ρ M' => ρ = some (0, (rkT T p : Int)) ∧ Lay M' ∧ MF [140] [] M M') := ⟨_, rfl⟩
  rw [← hQ]
  have hR := hT.1
  have hC := hT.2.1
  obtain ⟨E, hEl⟩ : ∃ E : Nat → Es, E = el p (tR T) (X0 T p) := ⟨_, rfl⟩
  have gx : ∀ c, c ≤ tC T → GX p (tR T) (tC T) (E c).1 c (E c).2.1 (E c).2.2 ∧ (E c).1 ≤ c := fun c hc => by rw [hEl]; exact el_GX hR.2 (GX_0 hT hp) c hc
  have eR : ∀ c, (E c).1 ≤ tR T := fun c => by rw [hEl]; exact el_R c
  have eS : ∀ c, E (c + 1) = elS p (tR T) (E c) c := fun c => by rw [hEl]; rfl
  have fin : ∀ c, (c = tC T ∨ c < tC T ∧ (E c).1 = tR T) → (E c).1 = rkT T p := fun c h => by
    unfold rkT
    rw [← hEl]
    rcases h with h | ⟨h1, h2⟩
    · rw [h]
    · have := el_stop (p := p) (R := tR T) (X0 := X0 T p) (c := c) (by rw [← hEl]; omega) (tC T - c)
      rw [← hEl, show c + (tC T - c) = tC T by omega] at this
      exact this.symm
  have mo' : ∀ {N : pm_M}, MF [140] [] M N → MoAt N T := fun k => hM0.mf k (by decide) (by decide) (by decide) (by decide)
  have loop : ∀ (k c n : Nat) (b : Int) (X Y : Mx) (v4 v5 v6 v7 : pm_V) (N : pm_M), c + k = tC T → E c = (n, b, X) → (∀ r, n ≤ r → r < tR T → RR p (tC T) c (X r) (Y r)) → Lay N → MF [140] [] M N → MxAt N 140 (tR T) (tC T) Y → Wp (d + 2) 228 62 [(2, ((116 : Nat) : Int)), (0, (p : Int)), (0, (n : Int)), (0, (c : Int)), v4, v5, v6, v7] [] N mc ms Q := by
    intro k
    induction k with
    | zero =>
      intro c n b X Y v4 v5 v6 v7 N hi hs hJ lay mf hY
      have m2 := (mo' mf).2.1
      have f1 := fin c (Or.inl (by omega))
      rw [hs] at f1
      have e : c = tC T := by omega
      rw [e]
      refine g_iload_n lk_228_62 rfl ?_
      refine g_aload_n lk_228_63 rfl ?_
      refine m_getfield (u := []) (M := N) lk_228_64 rfl (lay.on (by decide) rfl) (v := (tC T : Int)) m2 ?_
      refine g_icmp (t := 235) lk_228_67 rfl (by first | (unfold pm_inI; omega) | exact pm_and_in _ _ | exact pm_shr_in _ _ | exact pm_or_in _ _ | exact pm_xor_in _ _ | exact pm_shl_in _ _ | exact pm_cmp_in _ _ | exact pm_b8_in _ | (unfold pm_inI; split <;> omega)) (by first | (unfold pm_inI; omega) | exact pm_and_in _ _ | exact pm_shr_in _ _ | exact pm_or_in _ _ | exact pm_xor_in _ _ | exact pm_shl_in _ _ | exact pm_cmp_in _ _ | exact pm_b8_in _ | (unfold pm_inI; split <;> omega)) (fun h1 => ?_) (fun h1 => ?_)
      · replace h1 : (tC T : Int) ≤ (tC T : Int) := h1
        refine g_iload_n lk_228_235 rfl ?_
        refine g_ireturn lk_228_236 (fun h => absurd h (by decide)) ?_
        rw [hQ]
        exact ⟨by rw [← f1], lay, mf⟩
      · replace h1 : ¬ ((tC T : Int) ≤ (tC T : Int)) := h1
        omega
    | succ k ih =>
      intro c n b X Y v4 v5 v6 v7 N hi hs hJ lay mf hY
      have moN := mo' mf
      have m1 := moN.1
      have m2 := moN.2.1
      obtain ⟨gc, nc⟩ := gx c (by omega)
      have nR := eR c
      have st := eS c
      have f1 := fin c
      rw [hs] at gc nc nR st f1
      by_cases e1 : n = tR T
      · have f2 := f1 (Or.inr ⟨by omega, e1⟩)
        refine g_iload_n lk_228_62 rfl ?_
        refine g_aload_n lk_228_63 rfl ?_
        refine m_getfield (u := []) (M := N) lk_228_64 rfl (lay.on (by decide) rfl) (v := (tC T : Int)) m2 ?_
        refine g_icmp (t := 235) lk_228_67 rfl (by first | (unfold pm_inI; omega) | exact pm_and_in _ _ | exact pm_shr_in _ _ | exact pm_or_in _ _ | exact pm_xor_in _ _ | exact pm_shl_in _ _ | exact pm_cmp_in _ _ | exact pm_b8_in _ | (unfold pm_inI; split <;> omega)) (by first | (unfold pm_inI; omega) | exact pm_and_in _ _ | exact pm_shr_in _ _ | exact pm_or_in _ _ | exact pm_xor_in _ _ | exact pm_shl_in _ _ | exact pm_cmp_in _ _ | exact pm_b8_in _ | (unfold pm_inI; split <;> omega)) (fun h1 => ?_) (fun h1 => ?_)
        · replace h1 : (tC T : Int) ≤ (c : Int) := h1
          refine g_iload_n lk_228_235 rfl ?_
          refine g_ireturn lk_228_236 (fun h => absurd h (by decide)) ?_
          rw [hQ]
          exact ⟨by rw [← f2], lay, mf⟩
        · replace h1 : ¬ ((tC T : Int) ≤ (c : Int)) := h1
          refine g_iload_n lk_228_70 rfl ?_
          refine g_aload_n lk_228_71 rfl ?_
          refine m_getfield (u := []) (M := N) lk_228_72 rfl (lay.on (by decide) rfl) (v := (tR T : Int)) m1 ?_
          refine g_icmp (t := 235) lk_228_75 rfl (by first | (unfold pm_inI; omega) | exact pm_and_in _ _ | exact pm_shr_in _ _ | exact pm_or_in _ _ | exact pm_xor_in _ _ | exact pm_shl_in _ _ | exact pm_cmp_in _ _ | exact pm_b8_in _ | (unfold pm_inI; split <;> omega)) (by first | (unfold pm_inI; omega) | exact pm_and_in _ _ | exact pm_shr_in _ _ | exact pm_or_in _ _ | exact pm_xor_in _ _ | exact pm_shl_in _ _ | exact pm_cmp_in _ _ | exact pm_b8_in _ | (unfold pm_inI; split <;> omega)) (fun h2 => ?_) (fun h2 => ?_)
          · replace h2 : (tR T : Int) ≤ (n : Int) := h2
            refine g_iload_n lk_228_235 rfl ?_
            refine g_ireturn lk_228_236 (fun h => absurd h (by decide)) ?_
            rw [hQ]
            exact ⟨by rw [← f2], lay, mf⟩
          · replace h2 : ¬ ((tR T : Int) ≤ (n : Int)) := h2
            omega
      have hn : n < tR T := by omega
      have xp : 1 ≤ p → ∀ r, r < tR T → (X r c).natAbs < p := fun h r hr => by
        rcases gc with ⟨h0, _⟩ | ⟨_, _, h3⟩
        · omega
        · exact h3 r c hr (by omega)
      have zz : ∀ a, n ≤ a → a < n + (tR T - n) → (X a c = 0 ↔ Y a c = 0) := fun a h1 h2 => (hJ a h1 (by omega)).z hE (fun h => xp h a (by omega)) (by omega)
      have fe := fpv_congr (X := X) (Y := Y) (c := c) (n := tR T - n) (r := n) zz
      have fl := fpv_le X c (tR T - n) n
      have fz := fpv_z Y c (tR T - n) n
      replace st : E (c + 1) = if n < tR T ∧ fpv X c (tR T - n) n < tR T then (n + 1, swp X n (fpv X c (tR T - n) n) n c, clr p b (swp X n (fpv X c (tR T - n) n)) n c) else (n, b, X) := st
      rw [← fe] at fz
      obtain ⟨f, hf⟩ : ∃ f, f = fpv X c (tR T - n) n := ⟨_, rfl⟩
      rw [← hf] at fl st fe fz
      have yb : ∀ r i, n ≤ r → r < tR T → i < tC T → (Y r i).natAbs ≤ 400000000 := fun r i h1 h2 h3 => (hJ r h1 h2).bd hp (fun j q1 q2 => gc.bd hR.2 ⟨h1, h2⟩ ⟨q1, q2⟩) h3
      -- behind the search
      have k113 : Wp (d + 2) 228 113 [(2, ((116 : Nat) : Int)), (0, (p : Int)), (0, (n : Int)), (0, (c : Int)), (0, (f : Int)), v5, v6, v7] [] N mc ms Q := by
        by_cases e2 : f < tR T
        · rw [if_pos ⟨hn, e2⟩] at st
          have gs := gc.swp hn (r := f) ⟨by omega, e2⟩
          obtain ⟨X1, hX1⟩ : ∃ X1, X1 = swp X n f := ⟨_, rfl⟩
          obtain ⟨Y1, hY1⟩ : ∃ Y1, Y1 = swp Y n f := ⟨_, rfl⟩
          rw [← hX1] at st gs
          have hJ1 : ∀ r, n ≤ r → r < tR T → RR p (tC T) c (X1 r) (Y1 r) := fun r h1 h2 => by
            rw [hX1, hY1, swp_eq, swp_eq]
            refine hJ _ ?_ ?_
            · split
              · omega
              · split <;> omega
            · split
              · omega
              · split <;> omega
          have yb1 : ∀ r i, n ≤ r → r < tR T → i < tC T → (Y1 r i).natAbs ≤ 400000000 := fun r i h1 h2 h3 => (hJ1 r h1 h2).bd hp (fun j q1 q2 => gs.bd hR.2 ⟨h1, h2⟩ ⟨q1, q2⟩) h3
          have rows : ∀ (m u : Nat) (w6 w7 : pm_V) (K : pm_M), u + m = tR T → n < u → Lay K → MF [140] [] M K → MxAt K 140 (tR T) (tC T) (tkU p (tC T) Y1 n c u) → Wp (d + 2) 228 202 [(2, ((116 : Nat) : Int)), (0, (p : Int)), (0, (n : Int)), (0, (c : Int)), (0, (f : Int)), (0, (u : Int)), w6, w7] [] K mc ms Q := by
            intro m
            induction m with
            | zero =>
              intro u w6 w7 K hu nu layK mfK hK
              have n1 := (mo' mfK).1
              have nx := ih (c + 1) (n + 1) (X1 n c) (clr p b X1 n c) (tkU p (tC T) Y1 n c (tR T)) (0, (f : Int)) (0, (u : Int)) w6 w7 K (by omega) st (fun r h1 h2 => by
                have e3 : tkU p (tC T) Y1 n c (tR T) r = tk p (tC T) (Y1 r) (Y1 n) c := by unfold tkU; rw [if_pos ⟨by omega, h2⟩]
                rw [e3]
                refine RR.stp (b := b) (hJ1 r (by omega) h2) (hJ1 n (Nat.le_refl _) hn) hE (by omega) (fun p0 => ?_) (fun p0 i q1 q2 => ?_) (fun p1 i q1 q2 => ?_)
                · rcases gs with ⟨_, _, h3, _⟩ | ⟨h3, _⟩
                  · exact h3
                  · omega
                · rcases gs with ⟨_, g2, g3, _⟩ | ⟨g3, _⟩
                  · obtain ⟨q, eq1, _⟩ := g2.b2 hn (show c < tC T by omega) (r := r) (i := i) ⟨by omega, h2⟩ ⟨q1, q2⟩
                    unfold clr red
                    rw [if_pos ⟨by omega, q1⟩, if_neg (by omega), if_neg g3, eq1, Int.mul_tdiv_cancel_left q g3]
                  · omega
                · unfold clr red
                  rw [if_pos ⟨by omega, q1⟩, if_pos (by omega)]) layK mfK (by rw [show tR T = u by omega] at hK ⊢; exact hK)
              have e : u = tR T := by omega
              rw [e] at nx ⊢
              clear ih
              refine g_iload lk_228_202 rfl ?_
              refine g_aload_n lk_228_204 rfl ?_
              refine m_getfield (u := []) (M := K) lk_228_205 rfl (layK.on (by decide) rfl) (v := (tR T : Int)) n1 ?_
              refine g_icmp (t := 226) lk_228_208 rfl (by first | (unfold pm_inI; omega) | exact pm_and_in _ _ | exact pm_shr_in _ _ | exact pm_or_in _ _ | exact pm_xor_in _ _ | exact pm_shl_in _ _ | exact pm_cmp_in _ _ | exact pm_b8_in _ | (unfold pm_inI; split <;> omega)) (by first | (unfold pm_inI; omega) | exact pm_and_in _ _ | exact pm_shr_in _ _ | exact pm_or_in _ _ | exact pm_xor_in _ _ | exact pm_shl_in _ _ | exact pm_cmp_in _ _ | exact pm_b8_in _ | (unfold pm_inI; split <;> omega)) (fun h1 => ?_) (fun h1 => ?_)
              · replace h1 : (tR T : Int) ≤ (tR T : Int) := h1
                refine g_iinc (ls' := [(2, ((116 : Nat) : Int)), (0, (p : Int)), (0, ((n : Int) + 1)), (0, (c : Int)), (0, (f : Int)), (0, (tR T : Int)), w6, w7]) lk_228_226 rfl rfl rfl ?_
                refine g_iinc (ls' := [(2, ((116 : Nat) : Int)), (0, (p : Int)), (0, ((n : Int) + 1)), (0, ((c : Int) + 1)), (0, (f : Int)), (0, (tR T : Int)), w6, w7]) lk_228_229 rfl rfl rfl ?_
                refine g_goto (t := 62) lk_228_232 rfl ?_
                exact nx
              · replace h1 : ¬ ((tR T : Int) ≤ (tR T : Int)) := h1
                omega
            | succ m ihm =>
              intro u w6 w7 K hu nu layK mfK hK
              have moK := mo' mfK
              have n1 := moK.1
              have cu : tkU p (tC T) Y1 n c u u = Y1 u := by unfold tkU; rw [if_neg (by omega)]
              have cn : tkU p (tC T) Y1 n c u n = Y1 n := by unfold tkU; rw [if_neg (by omega)]
              have tf := c_Mo_takesOff (d := d) (mc := 0) (ms := 0) layK hT moK hK nu (show u < tR T by omega) (show c < tC T by omega) hp (fun i h => by rw [cu]; exact yb1 u i (by omega) (by omega) h) (fun i h => by rw [cn]; exact yb1 n i (Nat.le_refl _) hn h)
              have eq2 : (fun a => if a = u then tk p (tC T) (tkU p (tC T) Y1 n c u u) (tkU p (tC T) Y1 n c u n) c else tkU p (tC T) Y1 n c u a) = tkU p (tC T) Y1 n c (u + 1) := by
                funext a
                rw [cu, cn]
                by_cases q : a = u
                · rw [if_pos q]
                  unfold tkU
                  rw [if_pos ⟨by omega, by omega⟩, q]
                · rw [if_neg q]
                  unfold tkU
                  by_cases w : n < a ∧ a < u
                  · rw [if_pos w, if_pos ⟨w.1, by omega⟩]
                  · rw [if_neg w, if_neg (by omega)]
              rw [eq2] at tf
              have nx := fun K' => ihm (u + 1) w6 w7 K' (by omega) (by omega)
              clear ih ihm
              refine g_iload lk_228_202 rfl ?_
              refine g_aload_n lk_228_204 rfl ?_
              refine m_getfield (u := []) (M := K) lk_228_205 rfl (layK.on (by decide) rfl) (v := (tR T : Int)) n1 ?_
              refine g_icmp (t := 226) lk_228_208 rfl (by first | (unfold pm_inI; omega) | exact pm_and_in _ _ | exact pm_shr_in _ _ | exact pm_or_in _ _ | exact pm_xor_in _ _ | exact pm_shl_in _ _ | exact pm_cmp_in _ _ | exact pm_b8_in _ | (unfold pm_inI; split <;> omega)) (by first | (unfold pm_inI; omega) | exact pm_and_in _ _ | exact pm_shr_in _ _ | exact pm_or_in _ _ | exact pm_xor_in _ _ | exact pm_shl_in _ _ | exact pm_cmp_in _ _ | exact pm_b8_in _ | (unfold pm_inI; split <;> omega)) (fun h1 => ?_) (fun h1 => ?_)
              · replace h1 : (tR T : Int) ≤ (u : Int) := h1
                omega
              · replace h1 : ¬ ((tR T : Int) ≤ (u : Int)) := h1
                refine g_aload_n lk_228_211 rfl ?_
                refine g_iload lk_228_212 rfl ?_
                refine g_iload_n lk_228_214 rfl ?_
                refine g_iload_n lk_228_215 rfl ?_
                refine g_iload_n lk_228_216 rfl ?_
                refine g_virtual (p := 116) (Qc := _) lk_228_217 rfl (Nat.le_of_ble_eq_true rfl) rfl rfl (layK.on (by decide) rfl) (Nat.le_of_ble_eq_true rfl) (Nat.le_of_ble_eq_true rfl) (Nat.zero_le _) (Nat.zero_le _) (tf) ?_
                rintro _ K2 ⟨rfl, lay2, mf2, mx2⟩
                show Wp _ 228 220 [(2, ((116 : Nat) : Int)), (0, (p : Int)), (0, (n : Int)), (0, (c : Int)), (0, (f : Int)), (0, (u : Int)), w6, w7] [] K2 _ _ _
                refine g_iinc (ls' := [(2, ((116 : Nat) : Int)), (0, (p : Int)), (0, (n : Int)), (0, (c : Int)), (0, (f : Int)), (0, ((u : Int) + 1)), w6, w7]) lk_228_220 rfl rfl rfl ?_
                refine g_goto (t := 202) lk_228_223 rfl ?_
                exact nx K2 lay2 (mfK.trans mf2) mx2
          have swl : ∀ (m i : Nat) (w6 w7 : pm_V) (K : pm_M), i + m = tC T → Lay K → MF [140] [] M K → (∀ a j, a < tR T → j < tC T → pm_ct K 140 (6 * a + j) = if j < i then swp Y n f a j else Y a j) → Wp (d + 2) 228 128 [(2, ((116 : Nat) : Int)), (0, (p : Int)), (0, (n : Int)), (0, (c : Int)), (0, (f : Int)), (0, (i : Int)), w6, w7] [] K mc ms Q := by
            intro m
            induction m with
            | zero =>
              intro i w6 w7 K hi layK mfK hK
              have n2 := (mo' mfK).2.1
              have e : i = tC T := by omega
              rw [e] at hK ⊢
              have en : (n : Int) + 1 = ((n + 1 : Nat) : Int) := by omega
              refine g_iload lk_228_128 rfl ?_
              refine g_aload_n lk_228_130 rfl ?_
              refine m_getfield (u := []) (M := K) lk_228_131 rfl (layK.on (by decide) rfl) (v := (tC T : Int)) n2 ?_
              refine g_icmp (t := 197) lk_228_134 rfl (by first | (unfold pm_inI; omega) | exact pm_and_in _ _ | exact pm_shr_in _ _ | exact pm_or_in _ _ | exact pm_xor_in _ _ | exact pm_shl_in _ _ | exact pm_cmp_in _ _ | exact pm_b8_in _ | (unfold pm_inI; split <;> omega)) (by first | (unfold pm_inI; omega) | exact pm_and_in _ _ | exact pm_shr_in _ _ | exact pm_or_in _ _ | exact pm_xor_in _ _ | exact pm_shl_in _ _ | exact pm_cmp_in _ _ | exact pm_b8_in _ | (unfold pm_inI; split <;> omega)) (fun h1 => ?_) (fun h1 => ?_)
              · replace h1 : (tC T : Int) ≤ (tC T : Int) := h1
                refine g_iload_n lk_228_197 rfl ?_
                refine g_iconst lk_228_198 ?_
                refine g_iadd lk_228_199 ?_
                refine g_top (z := ((n : Int) + 1)) (z' := ((n + 1 : Nat) : Int)) (en) ?_
                refine g_istore (ls' := [(2, ((116 : Nat) : Int)), (0, (p : Int)), (0, (n : Int)), (0, (c : Int)), (0, (f : Int)), (0, ((n + 1 : Nat) : Int)), w6, w7]) lk_228_200 rfl rfl ?_
                exact rows (tR T - (n + 1)) (n + 1) w6 w7 K (by omega) (by omega) layK mfK (fun a j h1 h2 => by rw [hK a j h1 h2, if_pos h2, hY1]; unfold tkU; rw [if_neg (by omega)])
              · replace h1 : ¬ ((tC T : Int) ≤ (tC T : Int)) := h1
                omega
            | succ m ihm =>
              intro i w6 w7 K hi layK mfK hK
              have n2 := (mo' mfK).2.1
              obtain ⟨j1, hj1⟩ : ∃ j, j = 6 * f + i := ⟨_, rfl⟩
              obtain ⟨j2, hj2⟩ : ∃ j, j = 6 * n + i := ⟨_, rfl⟩
              have ej1 : (6 : Int) * (f : Int) + (i : Int) = (j1 : Int) := by omega
              have ej2 : (6 : Int) * (n : Int) + (i : Int) = (j2 : Int) := by omega
              have z1 := hK f i e2 (by omega)
              have z2 := hK n i hn (by omega)
              rw [if_neg (by omega), ← hj1] at z1
              rw [if_neg (by omega), ← hj2] at z2
              obtain ⟨y1, hy1⟩ : ∃ y, y = Y f i := ⟨_, rfl⟩
              obtain ⟨y2, hy2⟩ : ∃ y, y = Y n i := ⟨_, rfl⟩
              rw [← hy1] at z1
              rw [← hy2] at z2
              have go2 : ∀ (N' : pm_M), N' = Mu [(140, pm_upd (pm_upd (pm_ct K 140) j1 y2) j2 y1)] K → Lay N' → Wp (d + 2) 228 128 [(2, ((116 : Nat) : Int)), (0, (p : Int)), (0, (n : Int)), (0, (c : Int)), (0, (f : Int)), (0, (i : Int) + 1), (1, y1), (9, 0)] [] N' mc ms Q := fun N' hN' l1 => by
                refine ihm (i + 1) (1, y1) (9, 0) N' (by omega) l1 (by rw [hN']; exact mfK.trans (MF.mu _ _ rfl (fun _ _ => rfl))) (fun a j h1 h2 => ?_)
                rw [hN', Mu_ct]
                show pm_upd (pm_upd (pm_ct K 140) j1 y2) j2 y1 (6 * a + j) = _
                by_cases q1 : a = n ∧ j = i
                · rw [q1.1, q1.2, ← hj2, pm_upd_eq, if_pos (by omega), hy1]
                  unfold swp
                  rw [if_pos rfl]
                by_cases q2 : a = f ∧ j = i
                · rw [q2.1, q2.2, ← hj1, pm_upd_ne (by omega), pm_upd_eq, if_pos (by omega), hy2]
                  unfold swp
                  rw [if_neg (by omega), if_pos rfl]
                · rw [pm_upd_ne (by omega), pm_upd_ne (by omega), hK a j h1 h2]
                  by_cases q3 : j < i
                  · rw [if_pos q3, if_pos (by omega)]
                  · rw [if_neg q3]
                    by_cases q4 : j = i
                    · rw [if_pos (by omega)]
                      unfold swp
                      rw [if_neg (by omega), if_neg (by omega)]
                    · rw [if_neg (by omega)]
              clear ih ihm rows
              refine g_iload lk_228_128 rfl ?_
              refine g_aload_n lk_228_130 rfl ?_
              refine m_getfield (u := []) (M := K) lk_228_131 rfl (layK.on (by decide) rfl) (v := (tC T : Int)) n2 ?_
              refine g_icmp (t := 197) lk_228_134 rfl (by first | (unfold pm_inI; omega) | exact pm_and_in _ _ | exact pm_shr_in _ _ | exact pm_or_in _ _ | exact pm_xor_in _ _ | exact pm_shl_in _ _ | exact pm_cmp_in _ _ | exact pm_b8_in _ | (unfold pm_inI; split <;> omega)) (by first | (unfold pm_inI; omega) | exact pm_and_in _ _ | exact pm_shr_in _ _ | exact pm_or_in _ _ | exact pm_xor_in _ _ | exact pm_shl_in _ _ | exact pm_cmp_in _ _ | exact pm_b8_in _ | (unfold pm_inI; split <;> omega)) (fun h1 => ?_) (fun h1 => ?_)
              · replace h1 : (tC T : Int) ≤ (i : Int) := h1
                omega
              · replace h1 : ¬ ((tC T : Int) ≤ (i : Int)) := h1
                refine g_aload_n lk_228_137 rfl ?_
                refine g_getfield lk_228_138 rfl (layK.on (by decide) rfl) (v := ((140 : Nat) : Int)) (layK.rf rfl) ?_
                refine g_bipush lk_228_141 ?_
                refine g_iload lk_228_143 rfl ?_
                refine g_imul lk_228_145 ?_
                refine g_iload lk_228_146 rfl ?_
                refine g_iadd lk_228_148 ?_
                refine g_top (z := ((6 * (f : Int)) + (i : Int))) (z' := (j1 : Int)) (ej1) ?_
                refine m_laload (u := []) (M := K) lk_228_149 (layK.ay (by decide) rfl) (by omega) (j := j1) (by omega) (v := y1) z1 ?_
                refine g_lstore (ls' := [(2, ((116 : Nat) : Int)), (0, (p : Int)), (0, (n : Int)), (0, (c : Int)), (0, (f : Int)), (0, (i : Int)), (1, y1), (9, 0)]) lk_228_150 rfl rfl ?_
                refine g_aload_n lk_228_152 rfl ?_
                refine g_getfield lk_228_153 rfl (layK.on (by decide) rfl) (v := ((140 : Nat) : Int)) (layK.rf rfl) ?_
                refine g_bipush lk_228_156 ?_
                refine g_iload lk_228_158 rfl ?_
                refine g_imul lk_228_160 ?_
                refine g_iload lk_228_161 rfl ?_
                refine g_iadd lk_228_163 ?_
                refine g_top (z := ((6 * (f : Int)) + (i : Int))) (z' := (j1 : Int)) (ej1) ?_
                refine g_aload_n lk_228_164 rfl ?_
                refine g_getfield lk_228_165 rfl (layK.on (by decide) rfl) (v := ((140 : Nat) : Int)) (layK.rf rfl) ?_
                refine g_bipush lk_228_168 ?_
                refine g_iload_n lk_228_170 rfl ?_
                refine g_imul lk_228_171 ?_
                refine g_iload lk_228_172 rfl ?_
                refine g_iadd lk_228_174 ?_
                refine g_top (z := ((6 * (n : Int)) + (i : Int))) (z' := (j2 : Int)) (ej2) ?_
                refine m_laload (u := []) (M := K) lk_228_175 (layK.ay (by decide) rfl) (by omega) (j := j2) (by omega) (v := y2) z2 ?_
                have lay2 : Lay (Mu [(140, pm_upd (pm_ct K 140) j1 y2)] K) := layK.muA (l := []) (a := 140) (f := pm_upd (pm_ct K 140) j1 y2) rfl rfl
                refine m_lastore (u := []) (u' := [(140, pm_upd (pm_ct K 140) j1 y2)]) (M := K) lk_228_176 (layK.ay (by decide) rfl) (by omega) (j := j1) (by omega) rfl ?_
                refine g_aload_n lk_228_177 rfl ?_
                refine g_getfield lk_228_178 rfl (lay2.on (by decide) rfl) (v := ((140 : Nat) : Int)) (lay2.rf rfl) ?_
                refine g_bipush lk_228_181 ?_
                refine g_iload_n lk_228_183 rfl ?_
                refine g_imul lk_228_184 ?_
                refine g_iload lk_228_185 rfl ?_
                refine g_iadd lk_228_187 ?_
                refine g_top (z := ((6 * (n : Int)) + (i : Int))) (z' := (j2 : Int)) (ej2) ?_
                refine g_lload lk_228_188 rfl ?_
                have lay3 : Lay (Mu [(140, pm_upd (pm_upd (pm_ct K 140) j1 y2) j2 y1)] K) := lay2.muA (l := [(140, pm_upd (pm_ct K 140) j1 y2)]) (a := 140) (f := pm_upd (pm_upd (pm_ct K 140) j1 y2) j2 y1) rfl rfl
                refine m_lastore (u := [(140, pm_upd (pm_ct K 140) j1 y2)]) (u' := [(140, pm_upd (pm_upd (pm_ct K 140) j1 y2) j2 y1)]) (M := K) lk_228_190 (lay2.ay (by decide) rfl) (by omega) (j := j2) (by omega) rfl ?_
                refine g_iinc (ls' := [(2, ((116 : Nat) : Int)), (0, (p : Int)), (0, (n : Int)), (0, (c : Int)), (0, (f : Int)), (0, ((i : Int) + 1)), (1, y1), (9, 0)]) lk_228_191 rfl rfl rfl ?_
                refine g_goto (t := 128) lk_228_194 rfl ?_
                exact go2 _ rfl lay3
          clear ih
          refine g_iload lk_228_113 rfl ?_
          refine g_aload_n lk_228_115 rfl ?_
          refine m_getfield (u := []) (M := N) lk_228_116 rfl (lay.on (by decide) rfl) (v := (tR T : Int)) m1 ?_
          refine g_icmp (t := 125) lk_228_119 rfl (by first | (unfold pm_inI; omega) | exact pm_and_in _ _ | exact pm_shr_in _ _ | exact pm_or_in _ _ | exact pm_xor_in _ _ | exact pm_shl_in _ _ | exact pm_cmp_in _ _ | exact pm_b8_in _ | (unfold pm_inI; split <;> omega)) (by first | (unfold pm_inI; omega) | exact pm_and_in _ _ | exact pm_shr_in _ _ | exact pm_or_in _ _ | exact pm_xor_in _ _ | exact pm_shl_in _ _ | exact pm_cmp_in _ _ | exact pm_b8_in _ | (unfold pm_inI; split <;> omega)) (fun h1 => ?_) (fun h1 => ?_)
          · replace h1 : ¬ (f : Int) = (tR T : Int) := h1
            refine g_iconst lk_228_125 ?_
            refine g_istore (ls' := [(2, ((116 : Nat) : Int)), (0, (p : Int)), (0, (n : Int)), (0, (c : Int)), (0, (f : Int)), (0, 0), v6, v7]) lk_228_126 rfl rfl ?_
            exact swl (tC T) 0 _ _ N (by omega) lay mf (fun a j h1 h2 => by rw [if_neg (by omega)]; exact hY a j h1 h2)
          · replace h1 : ¬ (¬ (f : Int) = (tR T : Int)) := h1
            omega
        · rw [if_neg (fun q => e2 q.2)] at st
          have fz2 := fz (by omega)
          have nx := ih (c + 1) n b X Y (0, (f : Int)) v5 v6 v7 N (by omega) st (fun r h1 h2 => (hJ r h1 h2).col (fz2 r h1 (by omega))) lay mf hY
          clear ih
          refine g_iload lk_228_113 rfl ?_
          refine g_aload_n lk_228_115 rfl ?_
          refine m_getfield (u := []) (M := N) lk_228_116 rfl (lay.on (by decide) rfl) (v := (tR T : Int)) m1 ?_
          refine g_icmp (t := 125) lk_228_119 rfl (by first | (unfold pm_inI; omega) | exact pm_and_in _ _ | exact pm_shr_in _ _ | exact pm_or_in _ _ | exact pm_xor_in _ _ | exact pm_shl_in _ _ | exact pm_cmp_in _ _ | exact pm_b8_in _ | (unfold pm_inI; split <;> omega)) (by first | (unfold pm_inI; omega) | exact pm_and_in _ _ | exact pm_shr_in _ _ | exact pm_or_in _ _ | exact pm_xor_in _ _ | exact pm_shl_in _ _ | exact pm_cmp_in _ _ | exact pm_b8_in _ | (unfold pm_inI; split <;> omega)) (fun h1 => ?_) (fun h1 => ?_)
          · replace h1 : ¬ (f : Int) = (tR T : Int) := h1
            omega
          · replace h1 : ¬ (¬ (f : Int) = (tR T : Int)) := h1
            refine g_goto (t := 229) lk_228_122 rfl ?_
            refine g_iinc (ls' := [(2, ((116 : Nat) : Int)), (0, (p : Int)), (0, (n : Int)), (0, ((c : Int) + 1)), (0, (f : Int)), v5, v6, v7]) lk_228_229 rfl rfl rfl ?_
            refine g_goto (t := 62) lk_228_232 rfl ?_
            exact nx
      have look : ∀ (m r : Nat), r + m = tR T → n ≤ r → f = fpv Y c m r → Wp (d + 2) 228 81 [(2, ((116 : Nat) : Int)), (0, (p : Int)), (0, (n : Int)), (0, (c : Int)), (0, (r : Int)), v5, v6, v7] [] N mc ms Q := by
        intro m
        induction m with
        | zero =>
          intro r hi2 nr hfr
          have fR : f = r := hfr
          rw [← fR]
          refine g_iload lk_228_81 rfl ?_
          refine g_aload_n lk_228_83 rfl ?_
          refine m_getfield (u := []) (M := N) lk_228_84 rfl (lay.on (by decide) rfl) (v := (tR T : Int)) m1 ?_
          refine g_icmp (t := 113) lk_228_87 rfl (by first | (unfold pm_inI; omega) | exact pm_and_in _ _ | exact pm_shr_in _ _ | exact pm_or_in _ _ | exact pm_xor_in _ _ | exact pm_shl_in _ _ | exact pm_cmp_in _ _ | exact pm_b8_in _ | (unfold pm_inI; split <;> omega)) (by first | (unfold pm_inI; omega) | exact pm_and_in _ _ | exact pm_shr_in _ _ | exact pm_or_in _ _ | exact pm_xor_in _ _ | exact pm_shl_in _ _ | exact pm_cmp_in _ _ | exact pm_b8_in _ | (unfold pm_inI; split <;> omega)) (fun h1 => ?_) (fun h1 => ?_)
          · replace h1 : (tR T : Int) ≤ (f : Int) := h1
            exact k113
          · replace h1 : ¬ ((tR T : Int) ≤ (f : Int)) := h1
            omega
        | succ m ihm =>
          intro r hi2 nr hfr
          replace hfr : f = if Y r c = 0 then fpv Y c m (r + 1) else r := hfr
          have b4 := yb r c nr (by omega) (by omega)
          obtain ⟨j, hj⟩ : ∃ j, j = 6 * r + c := ⟨_, rfl⟩
          have ej : (6 : Int) * (r : Int) + (c : Int) = (j : Int) := by omega
          have z1 := hY r c (by omega) (by omega)
          rw [← hj] at z1
          obtain ⟨q, hq1, hq2, hq3, hq4⟩ := cmp0 (z := Y r c) (inL_of (by omega))
          obtain ⟨y, hy⟩ : ∃ y, y = Y r c := ⟨_, rfl⟩
          rw [← hy] at z1 hq1 hq2 hfr
          clear ih
          by_cases y0 : y = 0
          · rw [if_pos y0] at hfr
            have q0 := hq2.mpr y0
            rw [q0] at hq1
            refine g_iload lk_228_81 rfl ?_
            refine g_aload_n lk_228_83 rfl ?_
            refine m_getfield (u := []) (M := N) lk_228_84 rfl (lay.on (by decide) rfl) (v := (tR T : Int)) m1 ?_
            refine g_icmp (t := 113) lk_228_87 rfl (by first | (unfold pm_inI; omega) | exact pm_and_in _ _ | exact pm_shr_in _ _ | exact pm_or_in _ _ | exact pm_xor_in _ _ | exact pm_shl_in _ _ | exact pm_cmp_in _ _ | exact pm_b8_in _ | (unfold pm_inI; split <;> omega)) (by first | (unfold pm_inI; omega) | exact pm_and_in _ _ | exact pm_shr_in _ _ | exact pm_or_in _ _ | exact pm_xor_in _ _ | exact pm_shl_in _ _ | exact pm_cmp_in _ _ | exact pm_b8_in _ | (unfold pm_inI; split <;> omega)) (fun h1 => ?_) (fun h1 => ?_)
            · replace h1 : (tR T : Int) ≤ (r : Int) := h1
              omega
            · replace h1 : ¬ ((tR T : Int) ≤ (r : Int)) := h1
              refine g_aload_n lk_228_90 rfl ?_
              refine g_getfield lk_228_91 rfl (lay.on (by decide) rfl) (v := ((140 : Nat) : Int)) (lay.rf rfl) ?_
              refine g_bipush lk_228_94 ?_
              refine g_iload lk_228_96 rfl ?_
              refine g_imul lk_228_98 ?_
              refine g_iload_n lk_228_99 rfl ?_
              refine g_iadd lk_228_100 ?_
              refine g_top (z := ((6 * (r : Int)) + (c : Int))) (z' := (j : Int)) (ej) ?_
              refine m_laload (u := []) (M := N) lk_228_101 (lay.ay (by decide) rfl) (by omega) (j := j) (by omega) (v := y) z1 ?_
              refine g_lconst lk_228_102 ?_
              refine g_lcmp lk_228_103 ?_
              refine g_top (z := (pm_cmp (pm_wL y) (pm_wL 0))) (z' := 0) (hq1) ?_
              refine g_if (t := 113) lk_228_104 rfl (by first | (unfold pm_inI; omega) | exact pm_and_in _ _ | exact pm_shr_in _ _ | exact pm_or_in _ _ | exact pm_xor_in _ _ | exact pm_shl_in _ _ | exact pm_cmp_in _ _ | exact pm_b8_in _ | (unfold pm_inI; split <;> omega)) (fun h => absurd h (show ¬ (¬ (0 : Int) = (0 : Int)) by omega)) (fun _ => ?_)
              refine g_iinc (ls' := [(2, ((116 : Nat) : Int)), (0, (p : Int)), (0, (n : Int)), (0, (c : Int)), (0, ((r : Int) + 1)), v5, v6, v7]) lk_228_107 rfl rfl rfl ?_
              refine g_goto (t := 81) lk_228_110 rfl ?_
              exact ihm (r + 1) (by omega) (by omega) hfr
          · rw [if_neg y0] at hfr
            have q0 : ¬ q = 0 := fun e => y0 (hq2.mp e)
            rw [← hfr]
            rw [← hfr] at hj ej
            refine g_iload lk_228_81 rfl ?_
            refine g_aload_n lk_228_83 rfl ?_
            refine m_getfield (u := []) (M := N) lk_228_84 rfl (lay.on (by decide) rfl) (v := (tR T : Int)) m1 ?_
            refine g_icmp (t := 113) lk_228_87 rfl (by first | (unfold pm_inI; omega) | exact pm_and_in _ _ | exact pm_shr_in _ _ | exact pm_or_in _ _ | exact pm_xor_in _ _ | exact pm_shl_in _ _ | exact pm_cmp_in _ _ | exact pm_b8_in _ | (unfold pm_inI; split <;> omega)) (by first | (unfold pm_inI; omega) | exact pm_and_in _ _ | exact pm_shr_in _ _ | exact pm_or_in _ _ | exact pm_xor_in _ _ | exact pm_shl_in _ _ | exact pm_cmp_in _ _ | exact pm_b8_in _ | (unfold pm_inI; split <;> omega)) (fun h1 => ?_) (fun h1 => ?_)
            · replace h1 : (tR T : Int) ≤ (f : Int) := h1
              exact k113
            · replace h1 : ¬ ((tR T : Int) ≤ (f : Int)) := h1
              refine g_aload_n lk_228_90 rfl ?_
              refine g_getfield lk_228_91 rfl (lay.on (by decide) rfl) (v := ((140 : Nat) : Int)) (lay.rf rfl) ?_
              refine g_bipush lk_228_94 ?_
              refine g_iload lk_228_96 rfl ?_
              refine g_imul lk_228_98 ?_
              refine g_iload_n lk_228_99 rfl ?_
              refine g_iadd lk_228_100 ?_
              refine g_top (z := ((6 * (f : Int)) + (c : Int))) (z' := (j : Int)) (ej) ?_
              refine m_laload (u := []) (M := N) lk_228_101 (lay.ay (by decide) rfl) (by omega) (j := j) (by omega) (v := y) z1 ?_
              refine g_lconst lk_228_102 ?_
              refine g_lcmp lk_228_103 ?_
              refine g_top (z := (pm_cmp (pm_wL y) (pm_wL 0))) (z' := q) (hq1) ?_
              refine g_if (t := 113) lk_228_104 rfl (by first | (unfold pm_inI; omega) | exact pm_and_in _ _ | exact pm_shr_in _ _ | exact pm_or_in _ _ | exact pm_xor_in _ _ | exact pm_shl_in _ _ | exact pm_cmp_in _ _ | exact pm_b8_in _ | (unfold pm_inI; split <;> omega)) (fun h2 => ?_) (fun h2 => ?_)
              · replace h2 : ¬ q = 0 := h2
                exact k113
              · replace h2 : ¬ (¬ q = 0) := h2
                omega
      clear ih
      refine g_iload_n lk_228_62 rfl ?_
      refine g_aload_n lk_228_63 rfl ?_
      refine m_getfield (u := []) (M := N) lk_228_64 rfl (lay.on (by decide) rfl) (v := (tC T : Int)) m2 ?_
      refine g_icmp (t := 235) lk_228_67 rfl (by first | (unfold pm_inI; omega) | exact pm_and_in _ _ | exact pm_shr_in _ _ | exact pm_or_in _ _ | exact pm_xor_in _ _ | exact pm_shl_in _ _ | exact pm_cmp_in _ _ | exact pm_b8_in _ | (unfold pm_inI; split <;> omega)) (by first | (unfold pm_inI; omega) | exact pm_and_in _ _ | exact pm_shr_in _ _ | exact pm_or_in _ _ | exact pm_xor_in _ _ | exact pm_shl_in _ _ | exact pm_cmp_in _ _ | exact pm_b8_in _ | (unfold pm_inI; split <;> omega)) (fun h1 => ?_) (fun h1 => ?_)
      · replace h1 : (tC T : Int) ≤ (c : Int) := h1
        omega
      · replace h1 : ¬ ((tC T : Int) ≤ (c : Int)) := h1
        refine g_iload_n lk_228_70 rfl ?_
        refine g_aload_n lk_228_71 rfl ?_
        refine m_getfield (u := []) (M := N) lk_228_72 rfl (lay.on (by decide) rfl) (v := (tR T : Int)) m1 ?_
        refine g_icmp (t := 235) lk_228_75 rfl (by first | (unfold pm_inI; omega) | exact pm_and_in _ _ | exact pm_shr_in _ _ | exact pm_or_in _ _ | exact pm_xor_in _ _ | exact pm_shl_in _ _ | exact pm_cmp_in _ _ | exact pm_b8_in _ | (unfold pm_inI; split <;> omega)) (by first | (unfold pm_inI; omega) | exact pm_and_in _ _ | exact pm_shr_in _ _ | exact pm_or_in _ _ | exact pm_xor_in _ _ | exact pm_shl_in _ _ | exact pm_cmp_in _ _ | exact pm_b8_in _ | (unfold pm_inI; split <;> omega)) (fun h2 => ?_) (fun h2 => ?_)
        · replace h2 : (tR T : Int) ≤ (n : Int) := h2
          omega
        · replace h2 : ¬ ((tR T : Int) ≤ (n : Int)) := h2
          refine g_iload_n lk_228_78 rfl ?_
          refine g_istore (ls' := [(2, ((116 : Nat) : Int)), (0, (p : Int)), (0, (n : Int)), (0, (c : Int)), (0, (n : Int)), v5, v6, v7]) lk_228_79 rfl rfl ?_
          exact look (tR T - n) n (by omega) (Nat.le_refl _) fe
  have fill : ∀ (k i : Nat) (v3 v4 v5 v6 v7 : pm_V) (N : pm_M), i + k = 36 → Lay N → MF [140] [] M N → (∀ j, j < i → pm_ct N 140 j = X0 T p (j / 6) (j % 6)) → Wp (d + 2) 228 2 [(2, ((116 : Nat) : Int)), (0, (p : Int)), (0, (i : Int)), v3, v4, v5, v6, v7] [] N mc ms Q := by
    intro k
    induction k with
    | zero =>
      intro i v3 v4 v5 v6 v7 N hi lay mf hN
      have e : i = 36 := by omega
      rw [e] at hN ⊢
      refine g_iload_n lk_228_2 rfl ?_
      refine g_bipush lk_228_3 ?_
      refine g_icmp (t := 58) lk_228_5 rfl (by first | (unfold pm_inI; omega) | exact pm_and_in _ _ | exact pm_shr_in _ _ | exact pm_or_in _ _ | exact pm_xor_in _ _ | exact pm_shl_in _ _ | exact pm_cmp_in _ _ | exact pm_b8_in _ | (unfold pm_inI; split <;> omega)) (by first | (unfold pm_inI; omega) | exact pm_and_in _ _ | exact pm_shr_in _ _ | exact pm_or_in _ _ | exact pm_xor_in _ _ | exact pm_shl_in _ _ | exact pm_cmp_in _ _ | exact pm_b8_in _ | (unfold pm_inI; split <;> omega)) (fun h1 => ?_) (fun h1 => ?_)
      · replace h1 : 36 ≤ ((36 : Nat) : Int) := h1
        refine g_iconst lk_228_58 ?_
        refine g_istore_n (ls' := [(2, ((116 : Nat) : Int)), (0, (p : Int)), (0, 0), v3, v4, v5, v6, v7]) lk_228_59 rfl rfl ?_
        refine g_iconst lk_228_60 ?_
        refine g_istore_n (ls' := [(2, ((116 : Nat) : Int)), (0, (p : Int)), (0, 0), (0, 0), v4, v5, v6, v7]) lk_228_61 rfl rfl ?_
        refine loop (tC T) 0 0 1 (X0 T p) (X0 T p) _ _ _ _ N (by omega) (by rw [hEl]; rfl) (fun r h1 h2 => ?_) lay mf (fun r i h1 h2 => ?_)
        · by_cases p0 : p = 0
          · exact Or.inl ⟨p0, ⟨1, by omega, fun i _ _ => (Int.one_mul _).symm⟩, fun i hi => absurd hi (Nat.not_lt_zero i)⟩
          · have n1 : ¬ (p : Int) ∣ 1 := fun q => by have := Int.le_of_dvd (by omega) q; omega
            refine Or.inr ⟨by omega, ⟨1, 1, n1, n1, fun i _ _ => ⟨0, by omega⟩⟩, fun i hi => ?_⟩
            unfold X0
            by_cases q : tX T (6 * r + i) = 10
            · rw [if_pos q]; omega
            · rw [if_neg q, if_neg p0]
              have := Nat.mod_lt (tX T (6 * r + i)) (show 0 < p by omega)
              omega
        · rw [hN (6 * r + i) (by omega), show (6 * r + i) / 6 = r by omega, show (6 * r + i) % 6 = i by omega]
      · replace h1 : ¬ (36 ≤ ((36 : Nat) : Int)) := h1
        omega
    | succ k ih =>
      intro i v3 v4 v5 v6 v7 N hi lay mf hN
      have rc : pm_ct N 117 i = (tX T i : Int) := (mo' mf).2.2.2.2 i (by omega)
      have x10 := hT.2.2.1 i
      have ex : X0 T p (i / 6) (i % 6) = if tX T i = 10 then 0 else if p = 0 then (tX T i : Int) else ((tX T i % p : Nat) : Int) := by
        unfold X0
        rw [show 6 * (i / 6) + i % 6 = i by omega]
      obtain ⟨x, hx⟩ : ∃ x, x = tX T i := ⟨_, rfl⟩
      rw [← hx] at rc x10 ex
      have go2 : ∀ (z : Int) (N' : pm_M), N' = Mu [(140, pm_upd (pm_ct N 140) i z)] N → Lay N' → z = X0 T p (i / 6) (i % 6) → Wp (d + 2) 228 2 [(2, ((116 : Nat) : Int)), (0, (p : Int)), (0, (i : Int) + 1), v3, v4, v5, v6, v7] [] N' mc ms Q := fun z N' hN' l1 hz => by
        refine ih (i + 1) v3 v4 v5 v6 v7 N' (by omega) l1 (by rw [hN']; exact mf.trans (MF.mu _ _ rfl (fun _ _ => rfl))) (fun j hj => ?_)
        rw [hN', Mu_ct]
        show pm_upd (pm_ct N 140) i z j = _
        by_cases q : j = i
        · rw [q, pm_upd_eq, hz]
        · rw [pm_upd_ne q]; exact hN j (by omega)
      clear ih loop
      by_cases p0 : p = 0
      · skip
        refine g_iload_n lk_228_2 rfl ?_
        refine g_bipush lk_228_3 ?_
        refine g_icmp (t := 58) lk_228_5 rfl (by first | (unfold pm_inI; omega) | exact pm_and_in _ _ | exact pm_shr_in _ _ | exact pm_or_in _ _ | exact pm_xor_in _ _ | exact pm_shl_in _ _ | exact pm_cmp_in _ _ | exact pm_b8_in _ | (unfold pm_inI; split <;> omega)) (by first | (unfold pm_inI; omega) | exact pm_and_in _ _ | exact pm_shr_in _ _ | exact pm_or_in _ _ | exact pm_xor_in _ _ | exact pm_shl_in _ _ | exact pm_cmp_in _ _ | exact pm_b8_in _ | (unfold pm_inI; split <;> omega)) (fun h1 => ?_) (fun h1 => ?_)
        · replace h1 : 36 ≤ (i : Int) := h1
          omega
        · replace h1 : ¬ (36 ≤ (i : Int)) := h1
          refine g_aload_n lk_228_8 rfl ?_
          refine g_getfield lk_228_9 rfl (lay.on (by decide) rfl) (v := ((140 : Nat) : Int)) (lay.rf rfl) ?_
          refine g_iload_n lk_228_12 rfl ?_
          refine g_aload_n lk_228_13 rfl ?_
          refine g_getfield lk_228_14 rfl (lay.on (by decide) rfl) (v := ((117 : Nat) : Int)) (lay.rf rfl) ?_
          refine g_iload_n lk_228_17 rfl ?_
          refine m_iaload (u := []) (M := N) lk_228_18 (lay.ay (by decide) rfl) (by omega) (j := i) (by omega) (v := (x : Int)) rc ?_
          refine g_bipush lk_228_19 ?_
          refine g_icmp (t := 28) lk_228_21 rfl (by first | (unfold pm_inI; omega) | exact pm_and_in _ _ | exact pm_shr_in _ _ | exact pm_or_in _ _ | exact pm_xor_in _ _ | exact pm_shl_in _ _ | exact pm_cmp_in _ _ | exact pm_b8_in _ | (unfold pm_inI; split <;> omega)) (by first | (unfold pm_inI; omega) | exact pm_and_in _ _ | exact pm_shr_in _ _ | exact pm_or_in _ _ | exact pm_xor_in _ _ | exact pm_shl_in _ _ | exact pm_cmp_in _ _ | exact pm_b8_in _ | (unfold pm_inI; split <;> omega)) (fun h2 => ?_) (fun h2 => ?_)
          · replace h2 : ¬ (x : Int) = 10 := h2
            refine g_iload_n lk_228_28 rfl ?_
            refine g_if (t := 42) lk_228_29 rfl (by first | (unfold pm_inI; omega) | exact pm_and_in _ _ | exact pm_shr_in _ _ | exact pm_or_in _ _ | exact pm_xor_in _ _ | exact pm_shl_in _ _ | exact pm_cmp_in _ _ | exact pm_b8_in _ | (unfold pm_inI; split <;> omega)) (fun h3 => ?_) (fun h3 => ?_)
            · replace h3 : ¬ (p : Int) = 0 := h3
              omega
            · replace h3 : ¬ (¬ (p : Int) = 0) := h3
              refine g_aload_n lk_228_32 rfl ?_
              refine g_getfield lk_228_33 rfl (lay.on (by decide) rfl) (v := ((117 : Nat) : Int)) (lay.rf rfl) ?_
              refine g_iload_n lk_228_36 rfl ?_
              refine m_iaload (u := []) (M := N) lk_228_37 (lay.ay (by decide) rfl) (by omega) (j := i) (by omega) (v := (x : Int)) rc ?_
              refine g_i2l lk_228_38 (by unfold pm_inI; omega) ?_
              refine g_goto (t := 51) lk_228_39 rfl ?_
              have lay4 : Lay (Mu [(140, pm_upd (pm_ct N 140) i (x : Int))] N) := lay.muA (l := []) (a := 140) (f := pm_upd (pm_ct N 140) i (x : Int)) rfl rfl
              refine m_lastore (u := []) (u' := [(140, pm_upd (pm_ct N 140) i (x : Int))]) (M := N) lk_228_51 (lay.ay (by decide) rfl) (by omega) (j := i) (by omega) rfl ?_
              refine g_iinc (ls' := [(2, ((116 : Nat) : Int)), (0, (p : Int)), (0, ((i : Int) + 1)), v3, v4, v5, v6, v7]) lk_228_52 rfl rfl rfl ?_
              refine g_goto (t := 2) lk_228_55 rfl ?_
              exact go2 _ _ rfl lay4 (by rw [ex, if_neg (by omega), if_pos p0])
          · replace h2 : ¬ (¬ (x : Int) = 10) := h2
            refine g_lconst lk_228_24 ?_
            refine g_goto (t := 51) lk_228_25 rfl ?_
            have lay5 : Lay (Mu [(140, pm_upd (pm_ct N 140) i 0)] N) := lay.muA (l := []) (a := 140) (f := pm_upd (pm_ct N 140) i 0) rfl rfl
            refine m_lastore (u := []) (u' := [(140, pm_upd (pm_ct N 140) i 0)]) (M := N) lk_228_51 (lay.ay (by decide) rfl) (by omega) (j := i) (by omega) rfl ?_
            refine g_iinc (ls' := [(2, ((116 : Nat) : Int)), (0, (p : Int)), (0, ((i : Int) + 1)), v3, v4, v5, v6, v7]) lk_228_52 rfl rfl rfl ?_
            refine g_goto (t := 2) lk_228_55 rfl ?_
            exact go2 _ _ rfl lay5 (by rw [ex, if_pos (by omega)])
      · have em : (x : Int).tmod (p : Int) = ((x % p : Nat) : Int) := rfl
        have ml := Nat.mod_lt x (show 0 < p by omega)
        obtain ⟨w, hw⟩ : ∃ w, w = x % p := ⟨_, rfl⟩
        rw [← hw] at em ml ex
        refine g_iload_n lk_228_2 rfl ?_
        refine g_bipush lk_228_3 ?_
        refine g_icmp (t := 58) lk_228_5 rfl (by first | (unfold pm_inI; omega) | exact pm_and_in _ _ | exact pm_shr_in _ _ | exact pm_or_in _ _ | exact pm_xor_in _ _ | exact pm_shl_in _ _ | exact pm_cmp_in _ _ | exact pm_b8_in _ | (unfold pm_inI; split <;> omega)) (by first | (unfold pm_inI; omega) | exact pm_and_in _ _ | exact pm_shr_in _ _ | exact pm_or_in _ _ | exact pm_xor_in _ _ | exact pm_shl_in _ _ | exact pm_cmp_in _ _ | exact pm_b8_in _ | (unfold pm_inI; split <;> omega)) (fun h1 => ?_) (fun h1 => ?_)
        · replace h1 : 36 ≤ (i : Int) := h1
          omega
        · replace h1 : ¬ (36 ≤ (i : Int)) := h1
          refine g_aload_n lk_228_8 rfl ?_
          refine g_getfield lk_228_9 rfl (lay.on (by decide) rfl) (v := ((140 : Nat) : Int)) (lay.rf rfl) ?_
          refine g_iload_n lk_228_12 rfl ?_
          refine g_aload_n lk_228_13 rfl ?_
          refine g_getfield lk_228_14 rfl (lay.on (by decide) rfl) (v := ((117 : Nat) : Int)) (lay.rf rfl) ?_
          refine g_iload_n lk_228_17 rfl ?_
          refine m_iaload (u := []) (M := N) lk_228_18 (lay.ay (by decide) rfl) (by omega) (j := i) (by omega) (v := (x : Int)) rc ?_
          refine g_bipush lk_228_19 ?_
          refine g_icmp (t := 28) lk_228_21 rfl (by first | (unfold pm_inI; omega) | exact pm_and_in _ _ | exact pm_shr_in _ _ | exact pm_or_in _ _ | exact pm_xor_in _ _ | exact pm_shl_in _ _ | exact pm_cmp_in _ _ | exact pm_b8_in _ | (unfold pm_inI; split <;> omega)) (by first | (unfold pm_inI; omega) | exact pm_and_in _ _ | exact pm_shr_in _ _ | exact pm_or_in _ _ | exact pm_xor_in _ _ | exact pm_shl_in _ _ | exact pm_cmp_in _ _ | exact pm_b8_in _ | (unfold pm_inI; split <;> omega)) (fun h2 => ?_) (fun h2 => ?_)
          · replace h2 : ¬ (x : Int) = 10 := h2
            refine g_iload_n lk_228_28 rfl ?_
            refine g_if (t := 42) lk_228_29 rfl (by first | (unfold pm_inI; omega) | exact pm_and_in _ _ | exact pm_shr_in _ _ | exact pm_or_in _ _ | exact pm_xor_in _ _ | exact pm_shl_in _ _ | exact pm_cmp_in _ _ | exact pm_b8_in _ | (unfold pm_inI; split <;> omega)) (fun h3 => ?_) (fun h3 => ?_)
            · replace h3 : ¬ (p : Int) = 0 := h3
              refine g_aload_n lk_228_42 rfl ?_
              refine g_getfield lk_228_43 rfl (lay.on (by decide) rfl) (v := ((117 : Nat) : Int)) (lay.rf rfl) ?_
              refine g_iload_n lk_228_46 rfl ?_
              refine m_iaload (u := []) (M := N) lk_228_47 (lay.ay (by decide) rfl) (by omega) (j := i) (by omega) (v := (x : Int)) rc ?_
              refine g_iload_n lk_228_48 rfl ?_
              refine g_irem lk_228_49 (by unfold pm_inI; omega) (by unfold pm_inI; omega) (by omega) ?_
              refine g_top (z := ((x : Int).tmod (p : Int))) (z' := (w : Int)) (em) ?_
              refine g_i2l lk_228_50 (by unfold pm_inI; omega) ?_
              have lay4 : Lay (Mu [(140, pm_upd (pm_ct N 140) i (w : Int))] N) := lay.muA (l := []) (a := 140) (f := pm_upd (pm_ct N 140) i (w : Int)) rfl rfl
              refine m_lastore (u := []) (u' := [(140, pm_upd (pm_ct N 140) i (w : Int))]) (M := N) lk_228_51 (lay.ay (by decide) rfl) (by omega) (j := i) (by omega) rfl ?_
              refine g_iinc (ls' := [(2, ((116 : Nat) : Int)), (0, (p : Int)), (0, ((i : Int) + 1)), v3, v4, v5, v6, v7]) lk_228_52 rfl rfl rfl ?_
              refine g_goto (t := 2) lk_228_55 rfl ?_
              exact go2 _ _ rfl lay4 (by rw [ex, if_neg (by omega), if_neg p0])
            · replace h3 : ¬ (¬ (p : Int) = 0) := h3
              omega
          · replace h2 : ¬ (¬ (x : Int) = 10) := h2
            refine g_lconst lk_228_24 ?_
            refine g_goto (t := 51) lk_228_25 rfl ?_
            have lay5 : Lay (Mu [(140, pm_upd (pm_ct N 140) i 0)] N) := lay.muA (l := []) (a := 140) (f := pm_upd (pm_ct N 140) i 0) rfl rfl
            refine m_lastore (u := []) (u' := [(140, pm_upd (pm_ct N 140) i 0)]) (M := N) lk_228_51 (lay.ay (by decide) rfl) (by omega) (j := i) (by omega) rfl ?_
            refine g_iinc (ls' := [(2, ((116 : Nat) : Int)), (0, (p : Int)), (0, ((i : Int) + 1)), v3, v4, v5, v6, v7]) lk_228_52 rfl rfl rfl ?_
            refine g_goto (t := 2) lk_228_55 rfl ?_
            exact go2 _ _ rfl lay5 (by rw [ex, if_pos (by omega)])
  show Wp (d + 2) 228 0 [(2, ((116 : Nat) : Int)), (0, (p : Int)), (9, 0), (9, 0), (9, 0), (9, 0), (9, 0), (9, 0)] [] M mc ms Q
  refine g_iconst lk_228_0 ?_
  refine g_istore_n (ls' := [(2, ((116 : Nat) : Int)), (0, (p : Int)), (0, 0), (9, 0), (9, 0), (9, 0), (9, 0), (9, 0)]) lk_228_1 rfl rfl ?_
  exact fill 36 0 _ _ _ _ _ M (by omega) lay0 (MF.refl _ _ _) (fun j hj => absurd hj (Nat.not_lt_zero j))
theorem c_Mo_isPrime {d mc ms : Nat} {M : pm_M} {z : Int} (hz : pm_inI z) :
    pm_E (d + 1) 225 [(0, z)] M mc ms (fun ρ M' => ρ = some (0, if isPr z then 1 else 0) ∧ M' = M) := by
  obtain ⟨Q, hQ⟩ : ∃ Q : pm_Q, Q = (fun ρ M' => ρ = some (0, if isPr z then 1 else 0) ∧ M' = M) := ⟨_, rfl⟩
  rw [← hQ]
  have ii := fun (M : pm_M) => c_Mo_in (d := d) (mc := 0) (ms := 0) (M := M) (v := z) (l := 2) (h := 97) hz (by unfold pm_inI; omega) (by unfold pm_inI; omega)
  show Wp (d + 1) 225 0 [(0, z), (9, 0), (9, 0)] [] M mc ms Q
  by_cases e0 : 2 ≤ z ∧ z ≤ 97
  · rw [if_pos e0] at ii
    obtain ⟨n, rfl⟩ := Int.eq_ofNat_of_zero_le (show 0 ≤ z by omega)
    have tq : tdv n 10 2 = tdm n 97 2 := td_eq ⟨n, by omega⟩ (by show 2 ≤ n; omega)
    have last : ∀ (s e : Nat), s ≤ 1 → (s = 1 ↔ tdv n 10 2 = true) → (n ≤ e ∨ s = 0) → e ≤ 99 → Wp (d + 1) 225 10 [(0, (n : Int)), (0, (s : Int)), (0, (e : Int))] [] M mc ms Q := fun s e s1 hs he e9 => by
      have fi : ∀ r : Int, r = (s : Int) → Q (some (0, r)) M := fun r hr => by
        rw [hQ]
        refine ⟨?_, rfl⟩
        by_cases q : s = 1
        · rw [if_pos ⟨e0.1, e0.2, hs.mp q⟩, hr, q]; rfl
        · rw [if_neg (fun w => q (hs.mpr w.2.2)), hr, show s = 0 by omega]; rfl
      refine g_iload_n lk_225_10 rfl ?_
      refine g_iload_n lk_225_11 rfl ?_
      refine g_icmp (t := 37) lk_225_12 rfl (by first | (unfold pm_inI; omega) | exact pm_and_in _ _ | exact pm_shr_in _ _ | exact pm_or_in _ _ | exact pm_xor_in _ _ | exact pm_shl_in _ _ | exact pm_cmp_in _ _ | exact pm_b8_in _ | (unfold pm_inI; split <;> omega)) (by first | (unfold pm_inI; omega) | exact pm_and_in _ _ | exact pm_shr_in _ _ | exact pm_or_in _ _ | exact pm_xor_in _ _ | exact pm_shl_in _ _ | exact pm_cmp_in _ _ | exact pm_b8_in _ | (unfold pm_inI; split <;> omega)) (fun h1 => ?_) (fun h1 => ?_)
      · replace h1 : (n : Int) ≤ (e : Int) := h1
        refine g_iload_n lk_225_37 rfl ?_
        refine g_ireturn lk_225_38 (fun _ => by omega) ?_
        exact fi _ rfl
      · replace h1 : ¬ ((n : Int) ≤ (e : Int)) := h1
        refine g_iload_n lk_225_15 rfl ?_
        refine g_if (t := 37) lk_225_16 rfl (by first | (unfold pm_inI; omega) | exact pm_and_in _ _ | exact pm_shr_in _ _ | exact pm_or_in _ _ | exact pm_xor_in _ _ | exact pm_shl_in _ _ | exact pm_cmp_in _ _ | exact pm_b8_in _ | (unfold pm_inI; split <;> omega)) (fun h2 => ?_) (fun h2 => ?_)
        · replace h2 : (s : Int) = 0 := h2
          refine g_iload_n lk_225_37 rfl ?_
          refine g_ireturn lk_225_38 (fun _ => by omega) ?_
          exact fi _ rfl
        · replace h2 : ¬ ((s : Int) = 0) := h2
          omega
    have loop : ∀ (k e : Nat), e + k = 99 → 2 ≤ e → tdv n 10 2 = tdm n k e → Wp (d + 1) 225 10 [(0, (n : Int)), (0, 1), (0, (e : Int))] [] M mc ms Q := by
      intro k
      induction k with
      | zero =>
        intro e he e2 ht
        exact last 1 e (by omega) ⟨fun _ => ht, fun _ => rfl⟩ (by omega) (by omega)
      | succ k ih =>
        intro e he e2 ht
        replace ht : tdv n 10 2 = if n ≤ e then true else if n % e = 0 then false else tdm n k (e + 1) := ht
        by_cases q1 : n ≤ e
        · rw [if_pos q1] at ht
          exact last 1 e (by omega) ⟨fun _ => ht, fun _ => rfl⟩ (by omega) (by omega)
        rw [if_neg q1] at ht
        have em : (n : Int).tmod (e : Int) = ((n % e : Nat) : Int) := rfl
        have ml := Nat.mod_lt n (show 0 < e by omega)
        obtain ⟨m, hm⟩ : ∃ m, m = n % e := ⟨_, rfl⟩
        rw [← hm] at em ht ml
        by_cases q2 : m = 0
        · rw [if_pos q2] at ht
          have l0 := last 0 (e + 1) (by omega) ⟨fun h => by omega, fun h => by rw [ht] at h; cases h⟩ (Or.inr rfl) (by omega)
          have m0 : (n : Int).tmod (e : Int) = 0 := by rw [em, q2]; rfl
          refine g_iload_n lk_225_10 rfl ?_
          refine g_iload_n lk_225_11 rfl ?_
          refine g_icmp (t := 37) lk_225_12 rfl (by first | (unfold pm_inI; omega) | exact pm_and_in _ _ | exact pm_shr_in _ _ | exact pm_or_in _ _ | exact pm_xor_in _ _ | exact pm_shl_in _ _ | exact pm_cmp_in _ _ | exact pm_b8_in _ | (unfold pm_inI; split <;> omega)) (by first | (unfold pm_inI; omega) | exact pm_and_in _ _ | exact pm_shr_in _ _ | exact pm_or_in _ _ | exact pm_xor_in _ _ | exact pm_shl_in _ _ | exact pm_cmp_in _ _ | exact pm_b8_in _ | (unfold pm_inI; split <;> omega)) (fun h1 => ?_) (fun h1 => ?_)
          · replace h1 : (n : Int) ≤ (e : Int) := h1
            omega
          · replace h1 : ¬ ((n : Int) ≤ (e : Int)) := h1
            refine g_iload_n lk_225_15 rfl ?_
            refine g_if (t := 37) lk_225_16 rfl (by first | (unfold pm_inI; omega) | exact pm_and_in _ _ | exact pm_shr_in _ _ | exact pm_or_in _ _ | exact pm_xor_in _ _ | exact pm_shl_in _ _ | exact pm_cmp_in _ _ | exact pm_b8_in _ | (unfold pm_inI; split <;> omega)) (fun h => absurd h (show ¬ ((1 : Int) = (0 : Int)) by omega)) (fun _ => ?_)
            refine g_iload_n lk_225_19 rfl ?_
            refine g_iload_n lk_225_20 rfl ?_
            refine g_irem lk_225_21 (by unfold pm_inI; omega) (by unfold pm_inI; omega) (by omega) ?_
            refine g_top (z := ((n : Int).tmod (e : Int))) (z' := 0) (m0) ?_
            refine g_if (t := 29) lk_225_22 rfl (by first | (unfold pm_inI; omega) | exact pm_and_in _ _ | exact pm_shr_in _ _ | exact pm_or_in _ _ | exact pm_xor_in _ _ | exact pm_shl_in _ _ | exact pm_cmp_in _ _ | exact pm_b8_in _ | (unfold pm_inI; split <;> omega)) (fun _ => ?_) (fun h => absurd (show (0 : Int) = (0 : Int) by omega) h)
            refine g_iconst lk_225_29 ?_
            refine g_istore_n (ls' := [(0, (n : Int)), (0, 0), (0, (e : Int))]) lk_225_30 rfl rfl ?_
            refine g_iinc (ls' := [(0, (n : Int)), (0, 0), (0, ((e : Int) + 1))]) lk_225_31 rfl rfl rfl ?_
            refine g_goto (t := 10) lk_225_34 rfl ?_
            exact l0
        · rw [if_neg q2] at ht
          refine g_iload_n lk_225_10 rfl ?_
          refine g_iload_n lk_225_11 rfl ?_
          refine g_icmp (t := 37) lk_225_12 rfl (by first | (unfold pm_inI; omega) | exact pm_and_in _ _ | exact pm_shr_in _ _ | exact pm_or_in _ _ | exact pm_xor_in _ _ | exact pm_shl_in _ _ | exact pm_cmp_in _ _ | exact pm_b8_in _ | (unfold pm_inI; split <;> omega)) (by first | (unfold pm_inI; omega) | exact pm_and_in _ _ | exact pm_shr_in _ _ | exact pm_or_in _ _ | exact pm_xor_in _ _ | exact pm_shl_in _ _ | exact pm_cmp_in _ _ | exact pm_b8_in _ | (unfold pm_inI; split <;> omega)) (fun h1 => ?_) (fun h1 => ?_)
          · replace h1 : (n : Int) ≤ (e : Int) := h1
            omega
          · replace h1 : ¬ ((n : Int) ≤ (e : Int)) := h1
            refine g_iload_n lk_225_15 rfl ?_
            refine g_if (t := 37) lk_225_16 rfl (by first | (unfold pm_inI; omega) | exact pm_and_in _ _ | exact pm_shr_in _ _ | exact pm_or_in _ _ | exact pm_xor_in _ _ | exact pm_shl_in _ _ | exact pm_cmp_in _ _ | exact pm_b8_in _ | (unfold pm_inI; split <;> omega)) (fun h => absurd h (show ¬ ((1 : Int) = (0 : Int)) by omega)) (fun _ => ?_)
            refine g_iload_n lk_225_19 rfl ?_
            refine g_iload_n lk_225_20 rfl ?_
            refine g_irem lk_225_21 (by unfold pm_inI; omega) (by unfold pm_inI; omega) (by omega) ?_
            refine g_top (z := ((n : Int).tmod (e : Int))) (z' := (m : Int)) (em) ?_
            refine g_if (t := 29) lk_225_22 rfl (by first | (unfold pm_inI; omega) | exact pm_and_in _ _ | exact pm_shr_in _ _ | exact pm_or_in _ _ | exact pm_xor_in _ _ | exact pm_shl_in _ _ | exact pm_cmp_in _ _ | exact pm_b8_in _ | (unfold pm_inI; split <;> omega)) (fun h2 => ?_) (fun h2 => ?_)
            · replace h2 : (m : Int) = 0 := h2
              omega
            · replace h2 : ¬ ((m : Int) = 0) := h2
              refine g_iconst lk_225_25 ?_
              refine g_goto (t := 30) lk_225_26 rfl ?_
              refine g_istore_n (ls' := [(0, (n : Int)), (0, 1), (0, (e : Int))]) lk_225_30 rfl rfl ?_
              refine g_iinc (ls' := [(0, (n : Int)), (0, 1), (0, ((e : Int) + 1))]) lk_225_31 rfl rfl rfl ?_
              refine g_goto (t := 10) lk_225_34 rfl ?_
              exact ih (e + 1) (by omega) (by omega) ht
    refine g_iload_n lk_225_0 rfl ?_
    refine g_iconst lk_225_1 ?_
    refine g_bipush lk_225_2 ?_
    refine g_static (Qc := _) lk_225_4 (by decide) rfl (Nat.le_of_ble_eq_true rfl) rfl rfl (Nat.le_of_ble_eq_true rfl) (Nat.le_of_ble_eq_true rfl) (Nat.zero_le _) (Nat.zero_le _) (ii _) ?_
    rintro _ N1 ⟨rfl, hN1⟩
    rw [hN1]
    show Wp _ 225 7 [(0, (n : Int)), (9, 0), (9, 0)] [(0, 1)] M _ _ _
    refine g_istore_n (ls' := [(0, (n : Int)), (0, 1), (9, 0)]) lk_225_7 rfl rfl ?_
    refine g_iconst lk_225_8 ?_
    refine g_istore_n (ls' := [(0, (n : Int)), (0, 1), (0, 2)]) lk_225_9 rfl rfl ?_
    exact loop 97 2 (by omega) (by omega) tq
  · rw [if_neg e0] at ii
    have np : ¬ isPr z := fun w => e0 ⟨w.1, w.2.1⟩
    refine g_iload_n lk_225_0 rfl ?_
    refine g_iconst lk_225_1 ?_
    refine g_bipush lk_225_2 ?_
    refine g_static (Qc := _) lk_225_4 (by decide) rfl (Nat.le_of_ble_eq_true rfl) rfl rfl (Nat.le_of_ble_eq_true rfl) (Nat.le_of_ble_eq_true rfl) (Nat.zero_le _) (Nat.zero_le _) (ii _) ?_
    rintro _ N1 ⟨rfl, hN1⟩
    rw [hN1]
    show Wp _ 225 7 [(0, z), (9, 0), (9, 0)] [(0, 0)] M _ _ _
    refine g_istore_n (ls' := [(0, z), (0, 0), (9, 0)]) lk_225_7 rfl rfl ?_
    refine g_iconst lk_225_8 ?_
    refine g_istore_n (ls' := [(0, z), (0, 0), (0, 2)]) lk_225_9 rfl rfl ?_
    refine g_iload_n lk_225_10 rfl ?_
    refine g_iload_n lk_225_11 rfl ?_
    refine g_icmp (t := 37) lk_225_12 rfl (by first | assumption | (unfold pm_inI; omega)) (by first | assumption | (unfold pm_inI; omega)) (fun h2 => ?_) (fun h2 => ?_)
    · replace h2 : z ≤ 2 := h2
      refine g_iload_n lk_225_37 rfl ?_
      refine g_ireturn lk_225_38 (fun _ => by omega) ?_
      rw [hQ]
      exact ⟨by rw [if_neg np], rfl⟩
    · replace h2 : ¬ (z ≤ 2) := h2
      refine g_iload_n lk_225_15 rfl ?_
      refine g_if (t := 37) lk_225_16 rfl (by first | assumption | (unfold pm_inI; omega)) (fun _ => ?_) (fun h => absurd (show (0 : Int) = (0 : Int) by omega) h)
      refine g_iload_n lk_225_37 rfl ?_
      refine g_ireturn lk_225_38 (fun _ => by omega) ?_
      rw [hQ]
      exact ⟨by rw [if_neg np], rfl⟩
theorem c_Mo_rank {d mc ms : Nat} {M : pm_M} (lay0 : Lay M) {T : Tab} (hT : TabOK T) (hM0 : MoAt M T) {z : Int} (hz : pm_inI z) :
    pm_E (d + 3) 229 [(2, ((116 : Nat) : Int)), (0, z)] M mc ms (fun ρ M' => ρ = some (0, sRank T z) ∧ Lay M' ∧ MF [140] [0] M M') := by
  have th := MF.th (S := [140]) (K := [0]) (by decide) M
  have mo := hM0.mf th (by decide) (by decide) (by decide) (by decide)
  have ip := fun (M : pm_M) => c_Mo_isPrime (d := d + 1) (mc := 0) (ms := 0) (M := M) hz
  show Wp (d + 3) 229 0 [(2, ((116 : Nat) : Int)), (0, z)] [] M mc ms _
  by_cases e0 : z = 0
  · subst e0
    have es : sRank T 0 = (rkT T 0 : Int) := by unfold sRank; rw [if_pos rfl]
    rw [es]
    have rb := fun l => c_Mo_rankBy (d := d) (mc := 0) (ms := 0) (M := Mu [(116, pm_upd (pm_ct M 116) 0 0)] M) l hT mo (p := 0) (by omega) (Or.inl rfl) (fun h => by omega)
    refine g_aload_n lk_229_0 rfl ?_
    refine g_iconst lk_229_1 ?_
    have lay1 : Lay (Mu [(116, pm_upd (pm_ct M 116) 0 0)] M) := lay0.muF (l := []) (a := 116) (k := 0) (z := 0) rfl rfl
    refine m_putfield (u := []) (u' := [(116, pm_upd (pm_ct M 116) 0 0)]) (M := M) lk_229_2 rfl (lay0.on (by decide) rfl) (fun h => absurd h (by decide)) rfl ?_
    refine g_iload_n lk_229_5 rfl ?_
    refine g_if (t := 16) lk_229_6 rfl (by first | (unfold pm_inI; omega) | exact pm_and_in _ _ | exact pm_shr_in _ _ | exact pm_or_in _ _ | exact pm_xor_in _ _ | exact pm_shl_in _ _ | exact pm_cmp_in _ _ | exact pm_b8_in _ | (unfold pm_inI; split <;> omega)) (fun _ => ?_) (fun h => absurd (show (0 : Int) = (0 : Int) by omega) h)
    refine g_aload_n lk_229_16 rfl ?_
    refine g_iload_n lk_229_17 rfl ?_
    refine g_virtual (p := 116) (Qc := _) lk_229_18 rfl (Nat.le_of_ble_eq_true rfl) rfl rfl (lay1.on (by decide) rfl) (Nat.le_of_ble_eq_true rfl) (Nat.le_of_ble_eq_true rfl) (Nat.zero_le _) (Nat.zero_le _) (rb lay1) ?_
    rintro _ K1 ⟨rfl, layk, fr1⟩
    show Wp _ 229 21 [(2, ((116 : Nat) : Int)), (0, 0)] [(0, (rkT T 0 : Int))] K1 _ _ _
    refine g_goto (t := 25) lk_229_21 rfl ?_
    refine g_ireturn lk_229_25 (fun h => absurd h (by decide)) ?_
    exact ⟨rfl, layk, th.trans (fr1.mono (fun a q => q) (fun a q => by cases q))⟩
  by_cases e1 : isPr z
  · have es : sRank T z = (rkT T z.toNat : Int) := by unfold sRank; rw [if_neg e0, if_pos e1]
    rw [es]
    rw [if_pos e1] at ip
    obtain ⟨h2, h97, h3⟩ := e1
    obtain ⟨p, rfl⟩ := Int.eq_ofNat_of_zero_le (show 0 ≤ z by omega)
    have h3' : tdv p 10 2 = true := h3
    rw [Int.toNat_natCast]
    have eu : Eu p := Eu_of (by omega) (euc_tab ⟨p, by omega⟩ (by show 2 ≤ p; omega) h3')
    have rb := fun l => c_Mo_rankBy (d := d) (mc := 0) (ms := 0) (M := Mu [(116, pm_upd (pm_ct M 116) 0 0)] M) l hT mo (p := p) (by omega) (Or.inr (by omega)) (fun _ => eu)
    refine g_aload_n lk_229_0 rfl ?_
    refine g_iconst lk_229_1 ?_
    have lay1 : Lay (Mu [(116, pm_upd (pm_ct M 116) 0 0)] M) := lay0.muF (l := []) (a := 116) (k := 0) (z := 0) rfl rfl
    refine m_putfield (u := []) (u' := [(116, pm_upd (pm_ct M 116) 0 0)]) (M := M) lk_229_2 rfl (lay0.on (by decide) rfl) (fun h => absurd h (by decide)) rfl ?_
    refine g_iload_n lk_229_5 rfl ?_
    refine g_if (t := 16) lk_229_6 rfl (by first | (unfold pm_inI; omega) | exact pm_and_in _ _ | exact pm_shr_in _ _ | exact pm_or_in _ _ | exact pm_xor_in _ _ | exact pm_shl_in _ _ | exact pm_cmp_in _ _ | exact pm_b8_in _ | (unfold pm_inI; split <;> omega)) (fun h2 => ?_) (fun h2 => ?_)
    · replace h2 : (p : Int) = 0 := h2
      refine g_aload_n lk_229_16 rfl ?_
      refine g_iload_n lk_229_17 rfl ?_
      refine g_virtual (p := 116) (Qc := _) lk_229_18 rfl (Nat.le_of_ble_eq_true rfl) rfl rfl (lay1.on (by decide) rfl) (Nat.le_of_ble_eq_true rfl) (Nat.le_of_ble_eq_true rfl) (Nat.zero_le _) (Nat.zero_le _) (rb lay1) ?_
      rintro _ K1 ⟨rfl, layk, fr1⟩
      show Wp _ 229 21 [(2, ((116 : Nat) : Int)), (0, (p : Int))] [(0, (rkT T p : Int))] K1 _ _ _
      refine g_goto (t := 25) lk_229_21 rfl ?_
      refine g_ireturn lk_229_25 (fun h => absurd h (by decide)) ?_
      exact ⟨rfl, layk, th.trans (fr1.mono (fun a q => q) (fun a q => by cases q))⟩
    · replace h2 : ¬ ((p : Int) = 0) := h2
      refine g_iload_n lk_229_9 rfl ?_
      refine g_static (Qc := _) lk_229_10 (by decide) rfl (Nat.le_of_ble_eq_true rfl) rfl rfl (Nat.le_of_ble_eq_true rfl) (Nat.le_of_ble_eq_true rfl) (Nat.zero_le _) (Nat.zero_le _) (ip _) ?_
      rintro _ N3 ⟨rfl, hN3⟩
      rw [hN3]
      show Wp _ 229 13 [(2, ((116 : Nat) : Int)), (0, (p : Int))] [(0, 1)] (Mu [(116, pm_upd (pm_ct M 116) 0 0)] M) _ _ _
      refine g_if (t := 24) lk_229_13 rfl (by first | (unfold pm_inI; omega) | exact pm_and_in _ _ | exact pm_shr_in _ _ | exact pm_or_in _ _ | exact pm_xor_in _ _ | exact pm_shl_in _ _ | exact pm_cmp_in _ _ | exact pm_b8_in _ | (unfold pm_inI; split <;> omega)) (fun h => absurd h (show ¬ ((1 : Int) = (0 : Int)) by omega)) (fun _ => ?_)
      refine g_aload_n lk_229_16 rfl ?_
      refine g_iload_n lk_229_17 rfl ?_
      refine g_virtual (p := 116) (Qc := _) lk_229_18 rfl (Nat.le_of_ble_eq_true rfl) rfl rfl (lay1.on (by decide) rfl) (Nat.le_of_ble_eq_true rfl) (Nat.le_of_ble_eq_true rfl) (Nat.zero_le _) (Nat.zero_le _) (rb lay1) ?_
      rintro _ K1 ⟨rfl, layk, fr1⟩
      show Wp _ 229 21 [(2, ((116 : Nat) : Int)), (0, (p : Int))] [(0, (rkT T p : Int))] K1 _ _ _
      refine g_goto (t := 25) lk_229_21 rfl ?_
      refine g_ireturn lk_229_25 (fun h => absurd h (by decide)) ?_
      exact ⟨rfl, layk, th.trans (fr1.mono (fun a q => q) (fun a q => by cases q))⟩
  · have es : sRank T z = -1 := by unfold sRank; rw [if_neg e0, if_neg e1]
    rw [es]
    rw [if_neg e1] at ip
    refine g_aload_n lk_229_0 rfl ?_
    refine g_iconst lk_229_1 ?_
    have lay1 : Lay (Mu [(116, pm_upd (pm_ct M 116) 0 0)] M) := lay0.muF (l := []) (a := 116) (k := 0) (z := 0) rfl rfl
    refine m_putfield (u := []) (u' := [(116, pm_upd (pm_ct M 116) 0 0)]) (M := M) lk_229_2 rfl (lay0.on (by decide) rfl) (fun h => absurd h (by decide)) rfl ?_
    refine g_iload_n lk_229_5 rfl ?_
    refine g_if (t := 16) lk_229_6 rfl (by first | assumption | (unfold pm_inI; omega)) (fun h2 => ?_) (fun h2 => ?_)
    · replace h2 : z = 0 := h2
      omega
    · replace h2 : ¬ (z = 0) := h2
      refine g_iload_n lk_229_9 rfl ?_
      refine g_static (Qc := _) lk_229_10 (by decide) rfl (Nat.le_of_ble_eq_true rfl) rfl rfl (Nat.le_of_ble_eq_true rfl) (Nat.le_of_ble_eq_true rfl) (Nat.zero_le _) (Nat.zero_le _) (ip _) ?_
      rintro _ N3 ⟨rfl, hN3⟩
      rw [hN3]
      show Wp _ 229 13 [(2, ((116 : Nat) : Int)), (0, z)] [(0, 0)] (Mu [(116, pm_upd (pm_ct M 116) 0 0)] M) _ _ _
      refine g_if (t := 24) lk_229_13 rfl (by first | assumption | (unfold pm_inI; omega)) (fun _ => ?_) (fun h => absurd (show (0 : Int) = (0 : Int) by omega) h)
      refine g_iconst lk_229_24 ?_
      refine g_ireturn lk_229_25 (fun h => absurd h (by decide)) ?_
      exact ⟨rfl, lay1, th⟩
