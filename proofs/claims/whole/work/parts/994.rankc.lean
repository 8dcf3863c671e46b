/-! ===== rank: the class's calls ===== -/
/-- rows below n cleared up to a row -/
def clrU (p : Nat) (b : Int) (X : Mx) (n c u : Nat) : Mx := fun a i => if (n < a ∧ a < u) ∧ c ≤ i then red p b (X a i * X n c - X n i * X a c) else X a i
set_option maxHeartbeats 8000000 in
theorem c_Lines_rankBy {d mc ms : Nat} {M : pm_M} (lay0 : Lay M) {T : Tab} (hT : TabOK T) (hM0 : TbAt M 24 T) {p : Nat} (hp : p ≤ 97) :
    pm_E (d + 2) 28 [(2, ((39 : Nat) : Int)), (0, (p : Int))] M mc ms (fun ρ M' => ρ = some (0, (rkT T p : Int)) ∧ Lay M' ∧ Fr [40] M M') := by
  obtain ⟨Q, hQ⟩ : ∃ Q : pm_Q, Q = (fun ρ M' => ρ = some (0, (rkT T p : Int)) ∧ Lay M' ∧ Fr [40] M M') := ⟨_, rfl⟩
  rw [← hQ]
  have hR := hT.1
  have hC := hT.2.1
  obtain ⟨E, hE⟩ : ∃ E : Nat → Es, E = el p (tR T) (X0 T p) := ⟨_, rfl⟩
  have gx : ∀ c, c ≤ tC T → GX p (tR T) (tC T) (E c).1 c (E c).2.1 (E c).2.2 ∧ (E c).1 ≤ c := fun c hc => by rw [hE]; exact el_GX hR.2 (GX_0 hT hp) c hc
  have eR : ∀ c, (E c).1 ≤ tR T := fun c => by rw [hE]; exact el_R c
  have eS : ∀ c, E (c + 1) = elS p (tR T) (E c) c := fun c => by rw [hE]; rfl
  have fin : ∀ c, (c = tC T ∨ c < tC T ∧ (E c).1 = tR T) → (E c).1 = rkT T p := fun c h => by
    unfold rkT
    rw [← hE]
    rcases h with h | ⟨h1, h2⟩
    · rw [h]
    · have := el_stop (p := p) (R := tR T) (X0 := X0 T p) (c := c) (by rw [← hE]; omega) (tC T - c)
      rw [← hE, show c + (tC T - c) = tC T by omega] at this
      exact this.symm
  have loop : ∀ (k c n : Nat) (b : Int) (X : Mx) (v6 : pm_V) (N : pm_M), c + k = tC T → E c = (n, b, X) → Lay N → Fr [40] M N → MxAt N 40 (tR T) (tC T) X → Wp (d + 2) 28 12 [(2, ((39 : Nat) : Int)), (0, (p : Int)), (0, (n : Int)), (1, b), (9, 0), (0, (c : Int)), v6] [] N mc ms Q := by
    intro k
    induction k with
    | zero =>
      intro c n b X v6 N hi hs lay fr hX
      have m2 : pm_ct N 24 2 = (tC T : Int) := by rw [fr.ct (by decide)]; exact hM0.2.1
      have f1 := fin c (Or.inl (by omega))
      rw [hs] at f1
      have e : c = tC T := by omega
      rw [e]
      refine g_iload lk_28_12 rfl ?_
      refine g_aload_n lk_28_14 rfl ?_
      refine g_getfield lk_28_15 rfl (lay.on (by decide) rfl) (v := ((24 : Nat) : Int)) (lay.rf rfl) ?_
      refine m_getfield (u := []) (M := N) lk_28_18 rfl (lay.on (by decide) rfl) (v := (tC T : Int)) m2 ?_
      refine g_icmp (t := 101) lk_28_21 rfl (by first | (unfold pm_inI; omega) | exact pm_and_in _ _ | exact pm_shr_in _ _ | exact pm_or_in _ _ | exact pm_xor_in _ _ | exact pm_shl_in _ _ | exact pm_cmp_in _ _ | exact pm_b8_in _ | (unfold pm_inI; split <;> omega)) (by first | (unfold pm_inI; omega) | exact pm_and_in _ _ | exact pm_shr_in _ _ | exact pm_or_in _ _ | exact pm_xor_in _ _ | exact pm_shl_in _ _ | exact pm_cmp_in _ _ | exact pm_b8_in _ | (unfold pm_inI; split <;> omega)) (fun h1 => ?_) (fun h1 => ?_)
      · replace h1 : (tC T : Int) ≤ (tC T : Int) := h1
        refine g_iload_n lk_28_101 rfl ?_
        refine g_ireturn lk_28_102 (fun h => absurd h (by decide)) ?_
        rw [hQ]
        exact ⟨by rw [← f1], lay, fr⟩
      · replace h1 : ¬ ((tC T : Int) ≤ (tC T : Int)) := h1
        omega
    | succ k ih =>
      intro c n b X v6 N hi hs lay fr hX
      have tb := hM0.fr fr (by decide) (by decide)
      have m1 := tb.1
      have m2 := tb.2.1
      obtain ⟨gc, nc⟩ := gx c (by omega)
      have nR := eR c
      have st := eS c
      have f1 := fin c
      rw [hs] at gc nc nR st f1
      by_cases e1 : n = tR T
      · have f2 := f1 (Or.inr ⟨by omega, e1⟩)
        refine g_iload lk_28_12 rfl ?_
        refine g_aload_n lk_28_14 rfl ?_
        refine g_getfield lk_28_15 rfl (lay.on (by decide) rfl) (v := ((24 : Nat) : Int)) (lay.rf rfl) ?_
        refine m_getfield (u := []) (M := N) lk_28_18 rfl (lay.on (by decide) rfl) (v := (tC T : Int)) m2 ?_
        refine g_icmp (t := 101) lk_28_21 rfl (by first | (unfold pm_inI; omega) | exact pm_and_in _ _ | exact pm_shr_in _ _ | exact pm_or_in _ _ | exact pm_xor_in _ _ | exact pm_shl_in _ _ | exact pm_cmp_in _ _ | exact pm_b8_in _ | (unfold pm_inI; split <;> omega)) (by first | (unfold pm_inI; omega) | exact pm_and_in _ _ | exact pm_shr_in _ _ | exact pm_or_in _ _ | exact pm_xor_in _ _ | exact pm_shl_in _ _ | exact pm_cmp_in _ _ | exact pm_b8_in _ | (unfold pm_inI; split <;> omega)) (fun h1 => ?_) (fun h1 => ?_)
        · replace h1 : (tC T : Int) ≤ (c : Int) := h1
          refine g_iload_n lk_28_101 rfl ?_
          refine g_ireturn lk_28_102 (fun h => absurd h (by decide)) ?_
          rw [hQ]
          exact ⟨by rw [← f2], lay, fr⟩
        · replace h1 : ¬ ((tC T : Int) ≤ (c : Int)) := h1
          refine g_iload_n lk_28_24 rfl ?_
          refine g_aload_n lk_28_25 rfl ?_
          refine g_getfield lk_28_26 rfl (lay.on (by decide) rfl) (v := ((24 : Nat) : Int)) (lay.rf rfl) ?_
          refine m_getfield (u := []) (M := N) lk_28_29 rfl (lay.on (by decide) rfl) (v := (tR T : Int)) m1 ?_
          refine g_icmp (t := 101) lk_28_32 rfl (by first | (unfold pm_inI; omega) | exact pm_and_in _ _ | exact pm_shr_in _ _ | exact pm_or_in _ _ | exact pm_xor_in _ _ | exact pm_shl_in _ _ | exact pm_cmp_in _ _ | exact pm_b8_in _ | (unfold pm_inI; split <;> omega)) (by first | (unfold pm_inI; omega) | exact pm_and_in _ _ | exact pm_shr_in _ _ | exact pm_or_in _ _ | exact pm_xor_in _ _ | exact pm_shl_in _ _ | exact pm_cmp_in _ _ | exact pm_b8_in _ | (unfold pm_inI; split <;> omega)) (fun h2 => ?_) (fun h2 => ?_)
          · replace h2 : (tR T : Int) ≤ (n : Int) := h2
            refine g_iload_n lk_28_101 rfl ?_
            refine g_ireturn lk_28_102 (fun h => absurd h (by decide)) ?_
            rw [hQ]
            exact ⟨by rw [← f2], lay, fr⟩
          · replace h2 : ¬ ((tR T : Int) ≤ (n : Int)) := h2
            omega
      have hn : n < tR T := by omega
      have bU := c_Lines_bringUp (d := d + 1) (mc := 0) (ms := 0) lay hT tb hX hn (show c < tC T by omega) (fun r h1 h2 => gc.bd hR.2 ⟨h1, h2⟩ ⟨Nat.le_refl _, by omega⟩)
      have fl := fpv_le X c (tR T - n) n
      replace st : E (c + 1) = if n < tR T ∧ fpv X c (tR T - n) n < tR T then (n + 1, swp X n (fpv X c (tR T - n) n) n c, clr p b (swp X n (fpv X c (tR T - n) n)) n c) else (n, b, X) := st
      obtain ⟨f, hf⟩ : ∃ f, f = fpv X c (tR T - n) n := ⟨_, rfl⟩
      rw [← hf] at bU fl st
      by_cases e2 : f < tR T
      · rw [if_pos ⟨hn, e2⟩] at st
        have gs := gc.swp hn (r := f) ⟨by omega, e2⟩
        obtain ⟨X1, hX1⟩ : ∃ X1, X1 = swp X n f := ⟨_, rfl⟩
        rw [← hX1] at st gs bU
        have bd1 := fun r i h1 h2 h3 h4 => gs.bd hR.2 (r := r) (i := i) ⟨h1, h2⟩ ⟨h3, h4⟩
        have hb0 : p = 0 → b ≠ 0 ∧ b.natAbs ≤ 400000000 := fun q => by
          rcases gs with ⟨_, _, h3, h4⟩ | ⟨h1, _, _⟩
          · exact ⟨h3, h4⟩
          · omega
        have rows : ∀ (m u : Nat) (K : pm_M), u + m = tR T → n < u → Lay K → Fr [40] M K → MxAt K 40 (tR T) (tC T) (clrU p b X1 n c u) → Wp (d + 2) 28 50 [(2, ((39 : Nat) : Int)), (0, (p : Int)), (0, (n : Int)), (1, b), (9, 0), (0, (c : Int)), (0, (u : Int))] [] K mc ms Q := by
          intro m
          induction m with
          | zero =>
            intro u K hu nu layK frK hK
            have n1 : pm_ct K 24 1 = (tR T : Int) := by rw [frK.ct (by decide)]; exact hM0.1
            obtain ⟨j, hj⟩ : ∃ j, j = 6 * n + c := ⟨_, rfl⟩
            have ej : (n : Int) * 6 + (c : Int) = (j : Int) := by omega
            have z : pm_ct K 40 j = X1 n c := by
              rw [hj, hK n c hn (by omega)]
              unfold clrU
              rw [if_neg (by omega)]
            have hK2 : MxAt K 40 (tR T) (tC T) (clr p b X1 n c) := fun a i h1 h2 => by
              rw [hK a i h1 h2]
              unfold clrU clr
              by_cases q : n < a ∧ c ≤ i
              · rw [if_pos q, if_pos ⟨⟨q.1, by omega⟩, q.2⟩]
              · rw [if_neg q, if_neg (fun w => q ⟨w.1.1, w.2⟩)]
            have nx := ih (c + 1) (n + 1) (X1 n c) (clr p b X1 n c) (0, (u : Int)) K (by omega) st layK frK hK2
            obtain ⟨y, hy⟩ : ∃ y, y = X1 n c := ⟨_, rfl⟩
            rw [← hy] at z nx
            have e : u = tR T := by omega
            rw [e] at nx ⊢
            clear ih
            refine g_iload lk_28_50 rfl ?_
            refine g_aload_n lk_28_52 rfl ?_
            refine g_getfield lk_28_53 rfl (layK.on (by decide) rfl) (v := ((24 : Nat) : Int)) (layK.rf rfl) ?_
            refine m_getfield (u := []) (M := K) lk_28_56 rfl (layK.on (by decide) rfl) (v := (tR T : Int)) n1 ?_
            refine g_icmp (t := 79) lk_28_59 rfl (by first | (unfold pm_inI; omega) | exact pm_and_in _ _ | exact pm_shr_in _ _ | exact pm_or_in _ _ | exact pm_xor_in _ _ | exact pm_shl_in _ _ | exact pm_cmp_in _ _ | exact pm_b8_in _ | (unfold pm_inI; split <;> omega)) (by first | (unfold pm_inI; omega) | exact pm_and_in _ _ | exact pm_shr_in _ _ | exact pm_or_in _ _ | exact pm_xor_in _ _ | exact pm_shl_in _ _ | exact pm_cmp_in _ _ | exact pm_b8_in _ | (unfold pm_inI; split <;> omega)) (fun h1 => ?_) (fun h1 => ?_)
            · replace h1 : (tR T : Int) ≤ (tR T : Int) := h1
              refine g_aload_n lk_28_79 rfl ?_
              refine g_getfield lk_28_80 rfl (layK.on (by decide) rfl) (v := ((40 : Nat) : Int)) (layK.rf rfl) ?_
              refine g_iload_n lk_28_83 rfl ?_
              refine g_bipush lk_28_84 ?_
              refine g_imul lk_28_86 ?_
              refine g_iload lk_28_87 rfl ?_
              refine g_iadd lk_28_89 ?_
              refine g_top (z := (((n : Int) * 6) + (c : Int))) (z' := (j : Int)) (ej) ?_
              refine m_laload (u := []) (M := K) lk_28_90 (layK.ay (by decide) rfl) (by omega) (j := j) (by omega) (v := y) z ?_
              refine g_lstore_n (ls' := [(2, ((39 : Nat) : Int)), (0, (p : Int)), (0, (n : Int)), (1, y), (9, 0), (0, (c : Int)), (0, (tR T : Int))]) lk_28_91 rfl rfl ?_
              refine g_iinc (ls' := [(2, ((39 : Nat) : Int)), (0, (p : Int)), (0, ((n : Int) + 1)), (1, y), (9, 0), (0, (c : Int)), (0, (tR T : Int))]) lk_28_92 rfl rfl rfl ?_
              refine g_iinc (ls' := [(2, ((39 : Nat) : Int)), (0, (p : Int)), (0, ((n : Int) + 1)), (1, y), (9, 0), (0, ((c : Int) + 1)), (0, (tR T : Int))]) lk_28_95 rfl rfl rfl ?_
              refine g_goto (t := 12) lk_28_98 rfl ?_
              exact nx
            · replace h1 : ¬ ((tR T : Int) ≤ (tR T : Int)) := h1
              omega
          | succ m ihm =>
            intro u K hu nu layK frK hK
            have tbK := hM0.fr frK (by decide) (by decide)
            have n1 := tbK.1
            have cu : ∀ i, clrU p b X1 n c u u i = X1 u i := fun i => by unfold clrU; rw [if_neg (by omega)]
            have cn : ∀ i, clrU p b X1 n c u n i = X1 n i := fun i => by unfold clrU; rw [if_neg (by omega)]
            have cl := c_Lines_clear (d := d + 1) (mc := 0) (ms := 0) layK hT tbK hK nu (show u < tR T by omega) (show c < tC T by omega) hp hb0 (fun i h1 h2 => by rw [cu]; exact bd1 u i (by omega) (by omega) h1 h2) (fun i h1 h2 => by rw [cn]; exact bd1 n i (Nat.le_refl _) hn h1 h2)
            have eq2 : (fun a i => if a = u ∧ c ≤ i then red p b (clrU p b X1 n c u u i * clrU p b X1 n c u n c - clrU p b X1 n c u n i * clrU p b X1 n c u u c) else clrU p b X1 n c u a i) = clrU p b X1 n c (u + 1) := by
              funext a i
              rw [cu, cn, cn, cu]
              by_cases q : a = u ∧ c ≤ i
              · rw [if_pos q]
                unfold clrU
                rw [if_pos ⟨⟨by omega, by omega⟩, q.2⟩, q.1]
              · rw [if_neg q]
                unfold clrU
                by_cases w : (n < a ∧ a < u) ∧ c ≤ i
                · rw [if_pos w, if_pos ⟨⟨w.1.1, by omega⟩, w.2⟩]
                · rw [if_neg w, if_neg (by omega)]
            rw [eq2] at cl
            have nx := fun K' => ihm (u + 1) K' (by omega) (by omega)
            clear ih ihm
            refine g_iload lk_28_50 rfl ?_
            refine g_aload_n lk_28_52 rfl ?_
            refine g_getfield lk_28_53 rfl (layK.on (by decide) rfl) (v := ((24 : Nat) : Int)) (layK.rf rfl) ?_
            refine m_getfield (u := []) (M := K) lk_28_56 rfl (layK.on (by decide) rfl) (v := (tR T : Int)) n1 ?_
            refine g_icmp (t := 79) lk_28_59 rfl (by first | (unfold pm_inI; omega) | exact pm_and_in _ _ | exact pm_shr_in _ _ | exact pm_or_in _ _ | exact pm_xor_in _ _ | exact pm_shl_in _ _ | exact pm_cmp_in _ _ | exact pm_b8_in _ | (unfold pm_inI; split <;> omega)) (by first | (unfold pm_inI; omega) | exact pm_and_in _ _ | exact pm_shr_in _ _ | exact pm_or_in _ _ | exact pm_xor_in _ _ | exact pm_shl_in _ _ | exact pm_cmp_in _ _ | exact pm_b8_in _ | (unfold pm_inI; split <;> omega)) (fun h1 => ?_) (fun h1 => ?_)
            · replace h1 : (tR T : Int) ≤ (u : Int) := h1
              omega
            · replace h1 : ¬ ((tR T : Int) ≤ (u : Int)) := h1
              refine g_aload_n lk_28_62 rfl ?_
              refine g_iload lk_28_63 rfl ?_
              refine g_iload_n lk_28_65 rfl ?_
              refine g_iload lk_28_66 rfl ?_
              refine g_iload_n lk_28_68 rfl ?_
              refine g_lload_n lk_28_69 rfl ?_
              refine g_virtual (p := 39) (Qc := _) lk_28_70 rfl (Nat.le_of_ble_eq_true rfl) rfl rfl (layK.on (by decide) rfl) (Nat.le_of_ble_eq_true rfl) (Nat.le_of_ble_eq_true rfl) (Nat.zero_le _) (Nat.zero_le _) (cl) ?_
              rintro _ K2 ⟨rfl, lay2, fr2, mx2⟩
              show Wp _ 28 73 [(2, ((39 : Nat) : Int)), (0, (p : Int)), (0, (n : Int)), (1, b), (9, 0), (0, (c : Int)), (0, (u : Int))] [] K2 _ _ _
              refine g_iinc (ls' := [(2, ((39 : Nat) : Int)), (0, (p : Int)), (0, (n : Int)), (1, b), (9, 0), (0, (c : Int)), (0, ((u : Int) + 1))]) lk_28_73 rfl rfl rfl ?_
              refine g_goto (t := 50) lk_28_76 rfl ?_
              exact nx K2 lay2 (frK.trans fr2) mx2
        have ini : ∀ K, MxAt K 40 (tR T) (tC T) X1 → MxAt K 40 (tR T) (tC T) (clrU p b X1 n c (n + 1)) := fun K h a i h1 h2 => by
          rw [h a i h1 h2]
          unfold clrU
          rw [if_neg (by omega)]
        clear ih
        refine g_iload lk_28_12 rfl ?_
        refine g_aload_n lk_28_14 rfl ?_
        refine g_getfield lk_28_15 rfl (lay.on (by decide) rfl) (v := ((24 : Nat) : Int)) (lay.rf rfl) ?_
        refine m_getfield (u := []) (M := N) lk_28_18 rfl (lay.on (by decide) rfl) (v := (tC T : Int)) m2 ?_
        refine g_icmp (t := 101) lk_28_21 rfl (by first | (unfold pm_inI; omega) | exact pm_and_in _ _ | exact pm_shr_in _ _ | exact pm_or_in _ _ | exact pm_xor_in _ _ | exact pm_shl_in _ _ | exact pm_cmp_in _ _ | exact pm_b8_in _ | (unfold pm_inI; split <;> omega)) (by first | (unfold pm_inI; omega) | exact pm_and_in _ _ | exact pm_shr_in _ _ | exact pm_or_in _ _ | exact pm_xor_in _ _ | exact pm_shl_in _ _ | exact pm_cmp_in _ _ | exact pm_b8_in _ | (unfold pm_inI; split <;> omega)) (fun h1 => ?_) (fun h1 => ?_)
        · replace h1 : (tC T : Int) ≤ (c : Int) := h1
          omega
        · replace h1 : ¬ ((tC T : Int) ≤ (c : Int)) := h1
          refine g_iload_n lk_28_24 rfl ?_
          refine g_aload_n lk_28_25 rfl ?_
          refine g_getfield lk_28_26 rfl (lay.on (by decide) rfl) (v := ((24 : Nat) : Int)) (lay.rf rfl) ?_
          refine m_getfield (u := []) (M := N) lk_28_29 rfl (lay.on (by decide) rfl) (v := (tR T : Int)) m1 ?_
          refine g_icmp (t := 101) lk_28_32 rfl (by first | (unfold pm_inI; omega) | exact pm_and_in _ _ | exact pm_shr_in _ _ | exact pm_or_in _ _ | exact pm_xor_in _ _ | exact pm_shl_in _ _ | exact pm_cmp_in _ _ | exact pm_b8_in _ | (unfold pm_inI; split <;> omega)) (by first | (unfold pm_inI; omega) | exact pm_and_in _ _ | exact pm_shr_in _ _ | exact pm_or_in _ _ | exact pm_xor_in _ _ | exact pm_shl_in _ _ | exact pm_cmp_in _ _ | exact pm_b8_in _ | (unfold pm_inI; split <;> omega)) (fun h2 => ?_) (fun h2 => ?_)
          · replace h2 : (tR T : Int) ≤ (n : Int) := h2
            omega
          · replace h2 : ¬ ((tR T : Int) ≤ (n : Int)) := h2
            refine g_aload_n lk_28_35 rfl ?_
            refine g_iload_n lk_28_36 rfl ?_
            refine g_iload lk_28_37 rfl ?_
            refine g_virtual (p := 39) (Qc := _) lk_28_39 rfl (Nat.le_of_ble_eq_true rfl) rfl rfl (lay.on (by decide) rfl) (Nat.le_of_ble_eq_true rfl) (Nat.le_of_ble_eq_true rfl) (Nat.zero_le _) (Nat.zero_le _) (bU) ?_
            rintro ρ K1 ⟨lay1, fr1, q1, q2⟩
            obtain ⟨rfl, mx1⟩ := q1 e2
            show Wp _ 28 42 [(2, ((39 : Nat) : Int)), (0, (p : Int)), (0, (n : Int)), (1, b), (9, 0), (0, (c : Int)), v6] [(0, 1)] K1 _ _ _
            refine g_if (t := 95) lk_28_42 rfl (by first | (unfold pm_inI; omega) | exact pm_and_in _ _ | exact pm_shr_in _ _ | exact pm_or_in _ _ | exact pm_xor_in _ _ | exact pm_shl_in _ _ | exact pm_cmp_in _ _ | exact pm_b8_in _ | (unfold pm_inI; split <;> omega)) (fun h => absurd h (show ¬ ((1 : Int) = (0 : Int)) by omega)) (fun _ => ?_)
            refine g_iload_n lk_28_45 rfl ?_
            refine g_iconst lk_28_46 ?_
            refine g_iadd lk_28_47 ?_
            refine g_istore (ls' := [(2, ((39 : Nat) : Int)), (0, (p : Int)), (0, (n : Int)), (1, b), (9, 0), (0, (c : Int)), (0, ((n : Int) + 1))]) lk_28_48 rfl rfl ?_
            exact rows (tR T - (n + 1)) (n + 1) K1 (by omega) (by omega) lay1 (fr.trans fr1) (ini K1 mx1)
      · rw [if_neg (fun q => e2 q.2)] at st
        have nx := fun K' => ih (c + 1) n b X v6 K' (by omega) st
        clear ih
        refine g_iload lk_28_12 rfl ?_
        refine g_aload_n lk_28_14 rfl ?_
        refine g_getfield lk_28_15 rfl (lay.on (by decide) rfl) (v := ((24 : Nat) : Int)) (lay.rf rfl) ?_
        refine m_getfield (u := []) (M := N) lk_28_18 rfl (lay.on (by decide) rfl) (v := (tC T : Int)) m2 ?_
        refine g_icmp (t := 101) lk_28_21 rfl (by first | (unfold pm_inI; omega) | exact pm_and_in _ _ | exact pm_shr_in _ _ | exact pm_or_in _ _ | exact pm_xor_in _ _ | exact pm_shl_in _ _ | exact pm_cmp_in _ _ | exact pm_b8_in _ | (unfold pm_inI; split <;> omega)) (by first | (unfold pm_inI; omega) | exact pm_and_in _ _ | exact pm_shr_in _ _ | exact pm_or_in _ _ | exact pm_xor_in _ _ | exact pm_shl_in _ _ | exact pm_cmp_in _ _ | exact pm_b8_in _ | (unfold pm_inI; split <;> omega)) (fun h1 => ?_) (fun h1 => ?_)
        · replace h1 : (tC T : Int) ≤ (c : Int) := h1
          omega
        · replace h1 : ¬ ((tC T : Int) ≤ (c : Int)) := h1
          refine g_iload_n lk_28_24 rfl ?_
          refine g_aload_n lk_28_25 rfl ?_
          refine g_getfield lk_28_26 rfl (lay.on (by decide) rfl) (v := ((24 : Nat) : Int)) (lay.rf rfl) ?_
          refine m_getfield (u := []) (M := N) lk_28_29 rfl (lay.on (by decide) rfl) (v := (tR T : Int)) m1 ?_
          refine g_icmp (t := 101) lk_28_32 rfl (by first | (unfold pm_inI; omega) | exact pm_and_in _ _ | exact pm_shr_in _ _ | exact pm_or_in _ _ | exact pm_xor_in _ _ | exact pm_shl_in _ _ | exact pm_cmp_in _ _ | exact pm_b8_in _ | (unfold pm_inI; split <;> omega)) (by first | (unfold pm_inI; omega) | exact pm_and_in _ _ | exact pm_shr_in _ _ | exact pm_or_in _ _ | exact pm_xor_in _ _ | exact pm_shl_in _ _ | exact pm_cmp_in _ _ | exact pm_b8_in _ | (unfold pm_inI; split <;> omega)) (fun h2 => ?_) (fun h2 => ?_)
          · replace h2 : (tR T : Int) ≤ (n : Int) := h2
            omega
          · replace h2 : ¬ ((tR T : Int) ≤ (n : Int)) := h2
            refine g_aload_n lk_28_35 rfl ?_
            refine g_iload_n lk_28_36 rfl ?_
            refine g_iload lk_28_37 rfl ?_
            refine g_virtual (p := 39) (Qc := _) lk_28_39 rfl (Nat.le_of_ble_eq_true rfl) rfl rfl (lay.on (by decide) rfl) (Nat.le_of_ble_eq_true rfl) (Nat.le_of_ble_eq_true rfl) (Nat.zero_le _) (Nat.zero_le _) (bU) ?_
            rintro ρ K1 ⟨lay1, fr1, q1, q2⟩
            obtain ⟨rfl, mx1⟩ := q2 e2
            show Wp _ 28 42 [(2, ((39 : Nat) : Int)), (0, (p : Int)), (0, (n : Int)), (1, b), (9, 0), (0, (c : Int)), v6] [(0, 0)] K1 _ _ _
            refine g_if (t := 95) lk_28_42 rfl (by first | (unfold pm_inI; omega) | exact pm_and_in _ _ | exact pm_shr_in _ _ | exact pm_or_in _ _ | exact pm_xor_in _ _ | exact pm_shl_in _ _ | exact pm_cmp_in _ _ | exact pm_b8_in _ | (unfold pm_inI; split <;> omega)) (fun _ => ?_) (fun h => absurd (show (0 : Int) = (0 : Int) by omega) h)
            refine g_iinc (ls' := [(2, ((39 : Nat) : Int)), (0, (p : Int)), (0, (n : Int)), (1, b), (9, 0), (0, ((c : Int) + 1)), v6]) lk_28_95 rfl rfl rfl ?_
            refine g_goto (t := 12) lk_28_98 rfl ?_
            exact nx K1 lay1 (fr.trans fr1) mx1
  have fi := c_Lines_fill (d := d) (mc := 0) (ms := 0) lay0 hT hM0 hp
  show Wp (d + 2) 28 0 [(2, ((39 : Nat) : Int)), (0, (p : Int)), (9, 0), (9, 0), (9, 0), (9, 0), (9, 0)] [] M mc ms Q
  refine g_aload_n lk_28_0 rfl ?_
  refine g_iload_n lk_28_1 rfl ?_
  refine g_virtual (p := 39) (Qc := _) lk_28_2 rfl (Nat.le_of_ble_eq_true rfl) rfl rfl (lay0.on (by decide) rfl) (Nat.le_of_ble_eq_true rfl) (Nat.le_of_ble_eq_true rfl) (Nat.zero_le _) (Nat.zero_le _) (fi) ?_
  rintro _ K1 ⟨rfl, lay1, fr1, mx1⟩
  show Wp _ 28 5 [(2, ((39 : Nat) : Int)), (0, (p : Int)), (9, 0), (9, 0), (9, 0), (9, 0), (9, 0)] [] K1 _ _ _
  refine g_iconst lk_28_5 ?_
  refine g_istore_n (ls' := [(2, ((39 : Nat) : Int)), (0, (p : Int)), (0, 0), (9, 0), (9, 0), (9, 0), (9, 0)]) lk_28_6 rfl rfl ?_
  refine g_lconst lk_28_7 ?_
  refine g_lstore_n (ls' := [(2, ((39 : Nat) : Int)), (0, (p : Int)), (0, 0), (1, 1), (9, 0), (9, 0), (9, 0)]) lk_28_8 rfl rfl ?_
  refine g_iconst lk_28_9 ?_
  refine g_istore (ls' := [(2, ((39 : Nat) : Int)), (0, (p : Int)), (0, 0), (1, 1), (9, 0), (0, 0), (9, 0)]) lk_28_10 rfl rfl ?_
  exact loop (tC T) 0 0 1 (X0 T p) _ K1 (by omega) (by rw [hE]; rfl) lay1 fr1 mx1
/-- trial divisions: up to the root; all -/
def tdv (n : Nat) : Nat → Nat → Bool
  | 0, _ => true
  | k + 1, e => if n < e * e then true else if n % e = 0 then false else tdv n k (e + 1)
def tdm (n : Nat) : Nat → Nat → Bool
  | 0, _ => true
  | k + 1, e => if n ≤ e then true else if n % e = 0 then false else tdm n k (e + 1)
theorem td_eq : ∀ n : Fin 98, 2 ≤ (n : Nat) → tdv (n : Nat) 10 2 = tdm (n : Nat) 97 2 := by decide +kernel
abbrev isPr (z : Int) : Prop := 2 ≤ z ∧ z ≤ 97 ∧ tdv z.toNat 10 2 = true
def sRank (T : Tab) (z : Int) : Int := if z = 0 then (rkT T 0 : Int) else if isPr z then (rkT T z.toNat : Int) else -1
theorem c_X_isPrime {d mc ms : Nat} {M : pm_M} {z : Int} (hz : pm_inI z) :
    pm_E d 161 [(0, z)] M mc ms (fun ρ M' => ρ = some (0, if isPr z then 1 else 0) ∧ M' = M) := by
  obtain ⟨Q, hQ⟩ : ∃ Q : pm_Q, Q = (fun ρ M' => ρ = some (0, if isPr z then 1 else 0) ∧ M' = M) := ⟨_, rfl⟩
  rw [← hQ]
  show Wp d 161 0 [(0, z), (9, 0)] [] M mc ms Q
  by_cases e0 : 2 ≤ z ∧ z ≤ 97
  · obtain ⟨n, rfl⟩ := Int.eq_ofNat_of_zero_le (show 0 ≤ z by omega)
    have loop : ∀ (k e : Nat), e + k = 12 → 2 ≤ e → tdv n 10 2 = tdv n k e → Wp d 161 15 [(0, (n : Int)), (0, (e : Int))] [] M mc ms Q := by
      intro k
      induction k with
      | zero =>
        intro e he e2 ht
        have e12 : e = 12 := by omega
        rw [e12]
        have ed : ((12 : Nat) : Int) * ((12 : Nat) : Int) = 144 := by omega
        refine g_iload_n lk_161_15 rfl ?_
        refine g_iload_n lk_161_16 rfl ?_
        refine g_imul lk_161_17 ?_
        refine g_top (z := (((12 : Nat) : Int) * ((12 : Nat) : Int))) (z' := 144) (ed) ?_
        refine g_iload_n lk_161_18 rfl ?_
        refine g_icmp (t := 36) lk_161_19 rfl (by first | (unfold pm_inI; omega) | exact pm_and_in _ _ | exact pm_shr_in _ _ | exact pm_or_in _ _ | exact pm_xor_in _ _ | exact pm_shl_in _ _ | exact pm_cmp_in _ _ | exact pm_b8_in _ | (unfold pm_inI; split <;> omega)) (by first | (unfold pm_inI; omega) | exact pm_and_in _ _ | exact pm_shr_in _ _ | exact pm_or_in _ _ | exact pm_xor_in _ _ | exact pm_shl_in _ _ | exact pm_cmp_in _ _ | exact pm_b8_in _ | (unfold pm_inI; split <;> omega)) (fun h1 => ?_) (fun h1 => ?_)
        · replace h1 : (n : Int) < 144 := h1
          refine g_iconst lk_161_36 ?_
          refine g_ireturn lk_161_37 (fun _ => by omega) ?_
          rw [hQ]
          exact ⟨by rw [if_pos ⟨e0.1, e0.2, ht⟩], rfl⟩
        · replace h1 : ¬ ((n : Int) < 144) := h1
          omega
      | succ k ih =>
        intro e he e2 ht
        replace ht : tdv n 10 2 = if n < e * e then true else if n % e = 0 then false else tdv n k (e + 1) := ht
        have ee : e * e ≤ 11 * 11 := Nat.mul_le_mul (by omega) (by omega)
        obtain ⟨q, hq⟩ : ∃ q, q = e * e := ⟨_, rfl⟩
        have eq2 : (e : Int) * (e : Int) = (q : Int) := by rw [hq, Int.natCast_mul]
        rw [← hq] at ht ee
        have em : (n : Int).tmod (e : Int) = ((n % e : Nat) : Int) := rfl
        have ml := Nat.mod_lt n (show 0 < e by omega)
        obtain ⟨m, hm⟩ : ∃ m, m = n % e := ⟨_, rfl⟩
        rw [← hm] at em ht ml
        refine g_iload_n lk_161_15 rfl ?_
        refine g_iload_n lk_161_16 rfl ?_
        refine g_imul lk_161_17 ?_
        refine g_top (z := ((e : Int) * (e : Int))) (z' := (q : Int)) (eq2) ?_
        refine g_iload_n lk_161_18 rfl ?_
        refine g_icmp (t := 36) lk_161_19 rfl (by first | (unfold pm_inI; omega) | exact pm_and_in _ _ | exact pm_shr_in _ _ | exact pm_or_in _ _ | exact pm_xor_in _ _ | exact pm_shl_in _ _ | exact pm_cmp_in _ _ | exact pm_b8_in _ | (unfold pm_inI; split <;> omega)) (by first | (unfold pm_inI; omega) | exact pm_and_in _ _ | exact pm_shr_in _ _ | exact pm_or_in _ _ | exact pm_xor_in _ _ | exact pm_shl_in _ _ | exact pm_cmp_in _ _ | exact pm_b8_in _ | (unfold pm_inI; split <;> omega)) (fun h1 => ?_) (fun h1 => ?_)
        · replace h1 : (n : Int) < (q : Int) := h1
          refine g_iconst lk_161_36 ?_
          refine g_ireturn lk_161_37 (fun _ => by omega) ?_
          rw [if_pos (by omega)] at ht
          rw [hQ]
          exact ⟨by rw [if_pos ⟨e0.1, e0.2, ht⟩], rfl⟩
        · replace h1 : ¬ ((n : Int) < (q : Int)) := h1
          refine g_iload_n lk_161_22 rfl ?_
          refine g_iload_n lk_161_23 rfl ?_
          refine g_irem lk_161_24 (by unfold pm_inI; omega) (by unfold pm_inI; omega) (by omega) ?_
          refine g_top (z := ((n : Int).tmod (e : Int))) (z' := (m : Int)) (em) ?_
          refine g_if (t := 30) lk_161_25 rfl (by first | (unfold pm_inI; omega) | exact pm_and_in _ _ | exact pm_shr_in _ _ | exact pm_or_in _ _ | exact pm_xor_in _ _ | exact pm_shl_in _ _ | exact pm_cmp_in _ _ | exact pm_b8_in _ | (unfold pm_inI; split <;> omega)) (fun h2 => ?_) (fun h2 => ?_)
          · replace h2 : ¬ (m : Int) = 0 := h2
            refine g_iinc (ls' := [(0, (n : Int)), (0, ((e : Int) + 1))]) lk_161_30 rfl rfl rfl ?_
            refine g_goto (t := 15) lk_161_33 rfl ?_
            rw [if_neg (by omega), if_neg (by omega)] at ht
            exact ih (e + 1) (by omega) (by omega) ht
          · replace h2 : ¬ (¬ (m : Int) = 0) := h2
            refine g_iconst lk_161_28 ?_
            refine g_ireturn lk_161_29 (fun _ => by omega) ?_
            rw [if_neg (by omega), if_pos (by omega)] at ht
            rw [hQ]
            exact ⟨by rw [if_neg (fun w => by have w3 : tdv n 10 2 = true := w.2.2; rw [ht] at w3; cases w3)], rfl⟩
    refine g_iload_n lk_161_0 rfl ?_
    refine g_iconst lk_161_1 ?_
    refine g_icmp (t := 11) lk_161_2 rfl (by first | (unfold pm_inI; omega) | exact pm_and_in _ _ | exact pm_shr_in _ _ | exact pm_or_in _ _ | exact pm_xor_in _ _ | exact pm_shl_in _ _ | exact pm_cmp_in _ _ | exact pm_b8_in _ | (unfold pm_inI; split <;> omega)) (by first | (unfold pm_inI; omega) | exact pm_and_in _ _ | exact pm_shr_in _ _ | exact pm_or_in _ _ | exact pm_xor_in _ _ | exact pm_shl_in _ _ | exact pm_cmp_in _ _ | exact pm_b8_in _ | (unfold pm_inI; split <;> omega)) (fun h1 => ?_) (fun h1 => ?_)
    · replace h1 : (n : Int) < 2 := h1
      omega
    · replace h1 : ¬ ((n : Int) < 2) := h1
      refine g_iload_n lk_161_5 rfl ?_
      refine g_bipush lk_161_6 ?_
      refine g_icmp (t := 13) lk_161_8 rfl (by first | (unfold pm_inI; omega) | exact pm_and_in _ _ | exact pm_shr_in _ _ | exact pm_or_in _ _ | exact pm_xor_in _ _ | exact pm_shl_in _ _ | exact pm_cmp_in _ _ | exact pm_b8_in _ | (unfold pm_inI; split <;> omega)) (by first | (unfold pm_inI; omega) | exact pm_and_in _ _ | exact pm_shr_in _ _ | exact pm_or_in _ _ | exact pm_xor_in _ _ | exact pm_shl_in _ _ | exact pm_cmp_in _ _ | exact pm_b8_in _ | (unfold pm_inI; split <;> omega)) (fun h2 => ?_) (fun h2 => ?_)
      · replace h2 : (n : Int) ≤ 97 := h2
        refine g_iconst lk_161_13 ?_
        refine g_istore_n (ls' := [(0, (n : Int)), (0, 2)]) lk_161_14 rfl rfl ?_
        exact loop 10 2 (by omega) (by omega) rfl
      · replace h2 : ¬ ((n : Int) ≤ 97) := h2
        omega
  · skip
    refine g_iload_n lk_161_0 rfl ?_
    refine g_iconst lk_161_1 ?_
    refine g_icmp (t := 11) lk_161_2 rfl (by first | assumption | (unfold pm_inI; omega)) (by first | assumption | (unfold pm_inI; omega)) (fun h1 => ?_) (fun h1 => ?_)
    · replace h1 : z < 2 := h1
      refine g_iconst lk_161_11 ?_
      refine g_ireturn lk_161_12 (fun _ => by omega) ?_
      rw [hQ]
      exact ⟨by rw [if_neg (fun w => e0 ⟨w.1, w.2.1⟩)], rfl⟩
    · replace h1 : ¬ (z < 2) := h1
      refine g_iload_n lk_161_5 rfl ?_
      refine g_bipush lk_161_6 ?_
      refine g_icmp (t := 13) lk_161_8 rfl (by first | assumption | (unfold pm_inI; omega)) (by first | assumption | (unfold pm_inI; omega)) (fun h2 => ?_) (fun h2 => ?_)
      · replace h2 : z ≤ 97 := h2
        omega
      · replace h2 : ¬ (z ≤ 97) := h2
        refine g_iconst lk_161_11 ?_
        refine g_ireturn lk_161_12 (fun _ => by omega) ?_
        rw [hQ]
        exact ⟨by rw [if_neg (fun w => e0 ⟨w.1, w.2.1⟩)], rfl⟩
theorem c_X_rank {d mc ms : Nat} {M : pm_M} (lay0 : Lay M) {T : Tab} (hT : TabOK T) (hM0 : TbAt M 24 T) {z : Int} (hz : pm_inI z) :
    pm_E (d + 3) 133 [(2, ((1 : Nat) : Int)), (0, z)] M mc ms (fun ρ M' => ρ = some (0, sRank T z) ∧ Lay M' ∧ Fr [40] M M') := by
  have ip := fun (M : pm_M) => c_X_isPrime (d := d + 2) (mc := 0) (ms := 0) (M := M) hz
  show Wp (d + 3) 133 0 [(2, ((1 : Nat) : Int)), (0, z)] [] M mc ms _
  by_cases e0 : z = 0
  · subst e0
    have es : sRank T 0 = (rkT T 0 : Int) := by unfold sRank; rw [if_pos rfl]
    rw [es]
    have rb := c_Lines_rankBy (d := d) (mc := 0) (ms := 0) lay0 hT hM0 (p := 0) (by omega)
    refine g_iload_n lk_133_0 rfl ?_
    refine g_if (t := 11) lk_133_1 rfl (by first | (unfold pm_inI; omega) | exact pm_and_in _ _ | exact pm_shr_in _ _ | exact pm_or_in _ _ | exact pm_xor_in _ _ | exact pm_shl_in _ _ | exact pm_cmp_in _ _ | exact pm_b8_in _ | (unfold pm_inI; split <;> omega)) (fun _ => ?_) (fun h => absurd (show (0 : Int) = (0 : Int) by omega) h)
    refine g_aload_n lk_133_11 rfl ?_
    refine g_getfield lk_133_12 rfl (lay0.on (by decide) rfl) (v := ((39 : Nat) : Int)) (lay0.rf rfl) ?_
    refine g_iload_n lk_133_15 rfl ?_
    refine g_virtual (p := 39) (Qc := _) lk_133_16 rfl (Nat.le_of_ble_eq_true rfl) rfl rfl (lay0.on (by decide) rfl) (Nat.le_of_ble_eq_true rfl) (Nat.le_of_ble_eq_true rfl) (Nat.zero_le _) (Nat.zero_le _) (rb) ?_
    rintro _ K1 ⟨rfl, lay1, fr1⟩
    show Wp _ 133 19 [(2, ((1 : Nat) : Int)), (0, 0)] [(0, (rkT T 0 : Int))] K1 _ _ _
    refine g_goto (t := 23) lk_133_19 rfl ?_
    refine g_ireturn lk_133_23 (fun h => absurd h (by decide)) ?_
    exact ⟨rfl, lay1, fr1⟩
  by_cases e1 : isPr z
  · have es : sRank T z = (rkT T z.toNat : Int) := by unfold sRank; rw [if_neg e0, if_pos e1]
    rw [es]
    rw [if_pos e1] at ip
    obtain ⟨h2, h97, _⟩ := e1
    obtain ⟨p, rfl⟩ := Int.eq_ofNat_of_zero_le (show 0 ≤ z by omega)
    rw [Int.toNat_natCast]
    have rb := c_Lines_rankBy (d := d) (mc := 0) (ms := 0) lay0 hT hM0 (p := p) (by omega)
    refine g_iload_n lk_133_0 rfl ?_
    refine g_if (t := 11) lk_133_1 rfl (by first | (unfold pm_inI; omega) | exact pm_and_in _ _ | exact pm_shr_in _ _ | exact pm_or_in _ _ | exact pm_xor_in _ _ | exact pm_shl_in _ _ | exact pm_cmp_in _ _ | exact pm_b8_in _ | (unfold pm_inI; split <;> omega)) (fun h1 => ?_) (fun h1 => ?_)
    · replace h1 : (p : Int) = 0 := h1
      refine g_aload_n lk_133_11 rfl ?_
      refine g_getfield lk_133_12 rfl (lay0.on (by decide) rfl) (v := ((39 : Nat) : Int)) (lay0.rf rfl) ?_
      refine g_iload_n lk_133_15 rfl ?_
      refine g_virtual (p := 39) (Qc := _) lk_133_16 rfl (Nat.le_of_ble_eq_true rfl) rfl rfl (lay0.on (by decide) rfl) (Nat.le_of_ble_eq_true rfl) (Nat.le_of_ble_eq_true rfl) (Nat.zero_le _) (Nat.zero_le _) (rb) ?_
      rintro _ K1 ⟨rfl, lay1, fr1⟩
      show Wp _ 133 19 [(2, ((1 : Nat) : Int)), (0, (p : Int))] [(0, (rkT T p : Int))] K1 _ _ _
      refine g_goto (t := 23) lk_133_19 rfl ?_
      refine g_ireturn lk_133_23 (fun h => absurd h (by decide)) ?_
      exact ⟨rfl, lay1, fr1⟩
    · replace h1 : ¬ ((p : Int) = 0) := h1
      refine g_iload_n lk_133_4 rfl ?_
      refine g_static (Qc := _) lk_133_5 (by decide) rfl (Nat.le_of_ble_eq_true rfl) rfl rfl (Nat.le_of_ble_eq_true rfl) (Nat.le_of_ble_eq_true rfl) (Nat.zero_le _) (Nat.zero_le _) (ip _) ?_
      rintro _ N2 ⟨rfl, hN2⟩
      rw [hN2]
      show Wp _ 133 8 [(2, ((1 : Nat) : Int)), (0, (p : Int))] [(0, 1)] M _ _ _
      refine g_if (t := 22) lk_133_8 rfl (by first | (unfold pm_inI; omega) | exact pm_and_in _ _ | exact pm_shr_in _ _ | exact pm_or_in _ _ | exact pm_xor_in _ _ | exact pm_shl_in _ _ | exact pm_cmp_in _ _ | exact pm_b8_in _ | (unfold pm_inI; split <;> omega)) (fun h => absurd h (show ¬ ((1 : Int) = (0 : Int)) by omega)) (fun _ => ?_)
      refine g_aload_n lk_133_11 rfl ?_
      refine g_getfield lk_133_12 rfl (lay0.on (by decide) rfl) (v := ((39 : Nat) : Int)) (lay0.rf rfl) ?_
      refine g_iload_n lk_133_15 rfl ?_
      refine g_virtual (p := 39) (Qc := _) lk_133_16 rfl (Nat.le_of_ble_eq_true rfl) rfl rfl (lay0.on (by decide) rfl) (Nat.le_of_ble_eq_true rfl) (Nat.le_of_ble_eq_true rfl) (Nat.zero_le _) (Nat.zero_le _) (rb) ?_
      rintro _ K1 ⟨rfl, lay1, fr1⟩
      show Wp _ 133 19 [(2, ((1 : Nat) : Int)), (0, (p : Int))] [(0, (rkT T p : Int))] K1 _ _ _
      refine g_goto (t := 23) lk_133_19 rfl ?_
      refine g_ireturn lk_133_23 (fun h => absurd h (by decide)) ?_
      exact ⟨rfl, lay1, fr1⟩
  · have es : sRank T z = -1 := by unfold sRank; rw [if_neg e0, if_neg e1]
    rw [es]
    rw [if_neg e1] at ip
    refine g_iload_n lk_133_0 rfl ?_
    refine g_if (t := 11) lk_133_1 rfl (by first | assumption | (unfold pm_inI; omega)) (fun h1 => ?_) (fun h1 => ?_)
    · replace h1 : z = 0 := h1
      omega
    · replace h1 : ¬ (z = 0) := h1
      refine g_iload_n lk_133_4 rfl ?_
      refine g_static (Qc := _) lk_133_5 (by decide) rfl (Nat.le_of_ble_eq_true rfl) rfl rfl (Nat.le_of_ble_eq_true rfl) (Nat.le_of_ble_eq_true rfl) (Nat.zero_le _) (Nat.zero_le _) (ip _) ?_
      rintro _ N2 ⟨rfl, hN2⟩
      rw [hN2]
      show Wp _ 133 8 [(2, ((1 : Nat) : Int)), (0, z)] [(0, 0)] M _ _ _
      refine g_if (t := 22) lk_133_8 rfl (by first | assumption | (unfold pm_inI; omega)) (fun _ => ?_) (fun h => absurd (show (0 : Int) = (0 : Int) by omega) h)
      refine g_iconst lk_133_22 ?_
      refine g_ireturn lk_133_23 (fun h => absurd h (by decide)) ?_
      exact ⟨rfl, lay0, Fr.refl _ _⟩
