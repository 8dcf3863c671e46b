set_option maxHeartbeats 16000000 in
theorem c_Mo_layArea {d mc ms : Nat} {M : pm_M} (lay0 : Lay M) {T : Tab} (hT : TabOK T) (hM0 : MoAt M T) {rs cs : Nat} (hi : inT T rs cs) (sub : ∀ a b, inT T a b → (a = rs ∧ b < cs ∨ b = cs ∧ a < rs) → ArK M T a b) :
    pm_E (d + 3) 236 [(2, ((116 : Nat) : Int)), (0, (rs : Int)), (0, (cs : Int))] M mc ms (fun ρ M' => ρ = none ∧ Lay M' ∧ Fr [142, 143, 144] M M' ∧ Oth M M' (64 * rs + cs) ∧ ArK M' T rs cs) := by
  obtain ⟨Q, hQ⟩ : ∃ Q : pm_Q, Q = (fun ρ M' => ρ = none ∧ Lay M' ∧ Fr [142, 143, 144] M M' ∧ Oth M M' (64 * rs + cs) ∧ ArK M' T rs cs) := ⟨_, rfl⟩
  rw [← hQ]
  obtain ⟨r64, c64⟩ := hi.r hT
  have ca := hT.2.2.2.1
  have cb := hT.2.2.2.2
  have a36 := nA_36 hT rs cs
  obtain ⟨K, hK⟩ : ∃ K, K = 64 * rs + cs := ⟨_, rfl⟩
  have K4 : K < 4096 := by omega
  obtain ⟨al, hal⟩ : ∃ al : Nat, al = if pop (vIn T rs cs) < 2 then 1 else 0 := ⟨_, rfl⟩
  have al1 : al ≤ 1 := by rw [hal]; split <;> omega
  have e36 := e0_36 hT rs cs
  obtain ⟨B0, hB0⟩ : ∃ B0 : Nat → Nat, B0 = fun h => if h = 1 then 1 else 0 := ⟨_, rfl⟩
  obtain ⟨X0, hX0⟩ : ∃ X0 : Nat → Nat, X0 = fun _ => 0 := ⟨_, rfl⟩
  have bdE : ∀ p, (∀ b, EA T rs cs p b ≤ 1000400) ∧ ∀ b, EB T rs cs p b ≤ 1000400 := fun p => ⟨fun b => by unfold EA; omega, fun b => by unfold EB EA; omega⟩
  have bdB : ∀ p, (∀ h, BA T rs cs p h ≤ 1000400) ∧ ∀ h, BB T rs cs p h ≤ 1000400 := fun p => ⟨fun h => by have := mn_far (spC rs) (cA T rs cs h) p; unfold BA; omega, fun h => by have := mn_far (spC rs) (cA T rs cs h) rs; unfold BB BA; omega⟩
  have xa : ∀ p i, XA T rs cs p i ≤ 1000000 := fun p i => by
    unfold XA
    split
    · exact mn_far _ _ _
    · split
      · omega
      · exact mn_far _ _ _
  have bdX : ∀ p, (∀ i, XA T rs cs p i ≤ 1000400) ∧ ∀ i, XB T rs cs p i ≤ 1000400 := fun p => ⟨fun i => by have := xa p i; omega, fun i => by
    have h1 := xa rs 0
    have h2 := xa rs i
    unfold XB
    split
    · omega
    · split <;> omega⟩
  have bdA : ∀ p, Bd (EA T rs cs p) (if al = 1 then B0 else BA T rs cs p) (if al = 1 then X0 else XA T rs cs p) := fun p => ⟨(bdE p).1, fun h => by split; (rw [hB0]; show (if h = 1 then 1 else 0) ≤ _; split <;> omega); exact (bdB p).1 h, fun i => by split; (rw [hX0]; exact Nat.zero_le _); exact (bdX p).1 i⟩
  have bdBB : ∀ p, Bd (EB T rs cs p) (if al = 1 then B0 else BB T rs cs p) (if al = 1 then X0 else XB T rs cs p) := fun p => ⟨(bdE p).2, fun h => by split; (rw [hB0]; show (if h = 1 then 1 else 0) ≤ _; split <;> omega); exact (bdB p).2 h, fun i => by split; (rw [hX0]; exact Nat.zero_le _); exact (bdX p).2 i⟩
  have oth_sub : ∀ {N : pm_M}, Oth M N K → ∀ a b, inT T a b → (a = rs ∧ b < cs ∨ b = cs ∧ a < rs) → ArK N T a b := fun h a b hab q => by
    obtain ⟨x1, x2⟩ := hab.r hT
    exact h _ _ _ _ (by omega) (by omega) (sub a b hab q)
  have loopB : ∀ (m p : Nat) (v6 : pm_V) (N : pm_M), p + m = cs → 1 ≤ p → Lay N → Fr [142, 143, 144] M N → Oth M N K → TbK N K (EB T rs cs p) (if al = 1 then B0 else BB T rs cs p) (if al = 1 then X0 else XB T rs cs p) → Wp (d + 3) 236 253 [(2, ((116 : Nat) : Int)), (0, (rs : Int)), (0, (cs : Int)), (0, (K : Int)), (0, (al : Int)), (0, (nA T rs cs : Int)), v6, (0, ((lw cs : Nat) : Int)), (0, (p : Int))] [] N mc ms Q := by
    intro m
    induction m with
    | zero =>
      intro p v6 N hp p1 lay hF hO hK'
      have ep : p = cs := by omega
      refine g_iload lk_236_253 rfl ?_
      refine g_iload_n lk_236_255 rfl ?_
      refine g_icmp (t := 308) lk_236_256 rfl (by first | (unfold pm_inI; omega) | exact pm_and_in _ _ | exact pm_shr_in _ _ | exact pm_or_in _ _ | exact pm_xor_in _ _ | exact pm_shl_in _ _ | exact pm_cmp_in _ _ | exact pm_b8_in _ | (unfold pm_inI; split <;> omega)) (by first | (unfold pm_inI; omega) | exact pm_and_in _ _ | exact pm_shr_in _ _ | exact pm_or_in _ _ | exact pm_xor_in _ _ | exact pm_shl_in _ _ | exact pm_cmp_in _ _ | exact pm_b8_in _ | (unfold pm_inI; split <;> omega)) (fun h1 => ?_) (fun h1 => ?_)
      · replace h1 : (cs : Int) ≤ (p : Int) := h1
        refine g_return lk_236_308 ?_
        rw [hQ]
        rw [← hK]
        refine ⟨rfl, lay, hF, hO, ?_⟩
        unfold ArK
        rw [← hK]
        rw [ep] at hK'
        refine hK'.congr (fun b _ => EB_end r64 c64 hi.1 hi.2.2.1 b) (fun k _ => ?_) (fun i hi12 => ?_)
        · by_cases e : pop (vIn T rs cs) < 2
          · rw [if_pos (by rw [hal, if_pos e]), hB0, BW_s T k r64 c64 hi.1 hi.2.2.1, if_pos e]
          · rw [if_neg (by rw [hal, if_neg e]; omega)]; exact BB_end hT hi e k
        · by_cases e : pop (vIn T rs cs) < 2
          · rw [if_pos (by rw [hal, if_pos e]), hX0]
            unfold TX
            rw [TW_s T _ _ r64 c64 hi.1 hi.2.2.1, if_pos e]
          · rw [if_neg (by rw [hal, if_neg e]; omega)]; exact XB_end hT hi e hi12
      · replace h1 : ¬ ((cs : Int) ≤ (p : Int)) := h1
        omega
    | succ m ih =>
      intro p v6 N hp p1 lay hF hO hK'
      have hM : MoAt N T := hM0.fr hF (by decide) (by decide) (by decide)
      obtain ⟨t1, t2, t3⟩ := part_tab ⟨cs, c64⟩ ⟨p, by omega⟩
      replace t1 : decide (pm_and (p : Int) (pm_xor (cs : Int) (-1)) = 0) = Sb p cs := t1
      have t2 : decide (pm_and (p : Int) ((lw cs : Nat) : Int) = 0) = !(p.testBit (fstb cs)) := t2 (show cs ≠ 0 by omega)
      replace t3 : Sb p cs = true → pm_and (cs : Int) (pm_xor (p : Int) (-1)) = ((cs - p : Nat) : Int) := t3
      have no : ¬ spC cs p = true → Wp (d + 3) 236 253 [(2, ((116 : Nat) : Int)), (0, (rs : Int)), (0, (cs : Int)), (0, (K : Int)), (0, (al : Int)), (0, (nA T rs cs : Int)), v6, (0, ((lw cs : Nat) : Int)), (0, ((p + 1 : Nat) : Int))] [] N mc ms Q := fun h =>
        ih (p + 1) v6 N (by omega) (by omega) lay hF hO (hK'.congr (fun b _ => (EB_s.2 h b).symm) (fun k _ => by by_cases e : al = 1; (rw [if_pos e, if_pos e]); (rw [if_neg e, if_neg e]; exact (BB_s.2 h k).symm)) (fun i _ => by by_cases e : al = 1; (rw [if_pos e, if_pos e]); (rw [if_neg e, if_neg e]; exact (XB_s.2 h i).symm)))
      have yes : spC cs p = true → pm_E (d + 2) 237 [(2, ((116 : Nat) : Int)), (0, (K : Int)), (0, 2), (0, ((64 * rs + p : Nat) : Int)), (0, ((64 * rs + (cs - p) : Nat) : Int)), (0, (nA T rs cs : Int)), (0, (al : Int))] N 0 0 (fun ρ N' => ρ = none ∧ Lay N' ∧ Fr [142, 143, 144] N N' ∧ Oth N N' K ∧ TbK N' K (pE (tB T) (EB T rs cs p) (fun b => ER T b rs p) (fun b => ER T b rs (cs - p))) (if al = 1 then (if al = 1 then B0 else BB T rs cs p) else pB (tB T) (nA T rs cs) (if al = 1 then B0 else BB T rs cs p) (fun h => BW T h rs p) (fun h => BW T h rs (cs - p))) (if al = 1 then (if al = 1 then X0 else XB T rs cs p) else pT (tB T) 1 (if al = 1 then X0 else XB T rs cs p) (TX T rs p) (TX T rs (cs - p)) 6)) := fun h => by
        obtain ⟨c1, c2, -⟩ := spC_s c64 (by omega) (by omega) h
        have in1 : inT T rs p := ⟨hi.1, hi.2.1, c1, by have := hi.2.2.2; omega⟩
        have in2 : inT T rs (cs - p) := ⟨hi.1, hi.2.1, c2, by have := hi.2.2.2; omega⟩
        have k1 := oth_sub hO _ _ in1 (by omega)
        have k2 := oth_sub hO _ _ in2 (by omega)
        have := c_Mo_layParted1 (d := d + 1) (mc := 0) (ms := 0) lay (K := K) (K1 := 64 * rs + p) (K2 := 64 * rs + (cs - p)) (its := tB T) (asked := nA T rs cs) (al := al) K4 (by omega) (by omega) (by omega) (by omega) hK' k1 k2 (bdBB p) (ArK_bd hT in1) (ArK_bd hT in2) hM.2.2.2.1 cb.2 a36 al1
        exact this
      have cv : spC cs p = true → ∀ N' : pm_M, TbK N' K (pE (tB T) (EB T rs cs p) (fun b => ER T b rs p) (fun b => ER T b rs (cs - p))) (if al = 1 then (if al = 1 then B0 else BB T rs cs p) else pB (tB T) (nA T rs cs) (if al = 1 then B0 else BB T rs cs p) (fun h => BW T h rs p) (fun h => BW T h rs (cs - p))) (if al = 1 then (if al = 1 then X0 else XB T rs cs p) else pT (tB T) 1 (if al = 1 then X0 else XB T rs cs p) (TX T rs p) (TX T rs (cs - p)) 6) → TbK N' K (EB T rs cs (p + 1)) (if al = 1 then B0 else BB T rs cs (p + 1)) (if al = 1 then X0 else XB T rs cs (p + 1)) := fun h N' q5 => by
        refine q5.congr (fun b _ => (EB_s.1 h b).symm) (fun k hk => ?_) (fun i hi => ?_)
        · by_cases e : al = 1
          · rw [if_pos e, if_pos e, if_pos e]
          · rw [if_neg e, if_neg e, if_neg e]; exact (BB_s.1 h k hk).symm
        · by_cases e : al = 1
          · rw [if_pos e, if_pos e, if_pos e]
          · rw [if_neg e, if_neg e, if_neg e]; exact (XB_s.1 h i hi).symm
      refine g_iload lk_236_253 rfl ?_
      refine g_iload_n lk_236_255 rfl ?_
      refine g_icmp (t := 308) lk_236_256 rfl (by first | (unfold pm_inI; omega) | exact pm_and_in _ _ | exact pm_shr_in _ _ | exact pm_or_in _ _ | exact pm_xor_in _ _ | exact pm_shl_in _ _ | exact pm_cmp_in _ _ | exact pm_b8_in _ | (unfold pm_inI; split <;> omega)) (by first | (unfold pm_inI; omega) | exact pm_and_in _ _ | exact pm_shr_in _ _ | exact pm_or_in _ _ | exact pm_xor_in _ _ | exact pm_shl_in _ _ | exact pm_cmp_in _ _ | exact pm_b8_in _ | (unfold pm_inI; split <;> omega)) (fun h1 => ?_) (fun h1 => ?_)
      · replace h1 : (cs : Int) ≤ (p : Int) := h1
        refine g_return lk_236_308 ?_
        omega
      · replace h1 : ¬ ((cs : Int) ≤ (p : Int)) := h1
        refine g_iload lk_236_259 rfl ?_
        refine g_iload_n lk_236_261 rfl ?_
        refine g_iconst lk_236_262 ?_
        refine g_ixor lk_236_263 ?_
        refine g_iand lk_236_264 ?_
        refine g_if (t := 302) lk_236_265 rfl (by first | (unfold pm_inI; omega) | exact pm_and_in _ _ | exact pm_shr_in _ _ | exact pm_or_in _ _ | exact pm_xor_in _ _ | exact pm_shl_in _ _ | exact pm_cmp_in _ _ | exact pm_b8_in _ | (unfold pm_inI; split <;> omega)) (fun h2 => ?_) (fun h2 => ?_)
        · replace h2 : ¬ (pm_and (p : Int) (pm_xor (cs : Int) (-1))) = 0 := h2
          refine g_iinc (ls' := [(2, ((116 : Nat) : Int)), (0, (rs : Int)), (0, (cs : Int)), (0, (K : Int)), (0, (al : Int)), (0, (nA T rs cs : Int)), v6, (0, ((lw cs : Nat) : Int)), (0, ((p : Int) + 1))]) lk_236_302 rfl rfl rfl ?_
          refine g_goto (t := 253) lk_236_305 rfl ?_
          refine no (fun q => ?_)
          unfold spC at q
          rw [Bool.and_eq_true, ← t1, decide_eq_true_iff] at q
          exact h2 q.1
        · replace h2 : ¬ (¬ (pm_and (p : Int) (pm_xor (cs : Int) (-1))) = 0) := h2
          refine g_iload lk_236_268 rfl ?_
          refine g_iload lk_236_270 rfl ?_
          refine g_iand lk_236_272 ?_
          refine g_if (t := 302) lk_236_273 rfl (by first | (unfold pm_inI; omega) | exact pm_and_in _ _ | exact pm_shr_in _ _ | exact pm_or_in _ _ | exact pm_xor_in _ _ | exact pm_shl_in _ _ | exact pm_cmp_in _ _ | exact pm_b8_in _ | (unfold pm_inI; split <;> omega)) (fun h3 => ?_) (fun h3 => ?_)
          · replace h3 : (pm_and (p : Int) ((lw cs : Nat) : Int)) = 0 := h3
            refine g_iinc (ls' := [(2, ((116 : Nat) : Int)), (0, (rs : Int)), (0, (cs : Int)), (0, (K : Int)), (0, (al : Int)), (0, (nA T rs cs : Int)), v6, (0, ((lw cs : Nat) : Int)), (0, ((p : Int) + 1))]) lk_236_302 rfl rfl rfl ?_
            refine g_goto (t := 253) lk_236_305 rfl ?_
            refine no (fun q => ?_)
            unfold spC at q
            rw [Bool.and_eq_true] at q
            rw [q.2] at t2
            exact absurd h3 (of_decide_eq_false t2)
          · replace h3 : ¬ ((pm_and (p : Int) ((lw cs : Nat) : Int)) = 0) := h3
            refine g_aload_n lk_236_276 rfl ?_
            refine g_iload_n lk_236_277 rfl ?_
            refine g_iconst lk_236_278 ?_
            refine g_iload_n lk_236_279 rfl ?_
            refine g_iload lk_236_280 rfl ?_
            refine g_static (Qc := _) lk_236_282 (by decide) rfl (Nat.le_of_ble_eq_true rfl) rfl rfl (Nat.le_of_ble_eq_true rfl) (Nat.le_of_ble_eq_true rfl) (Nat.zero_le _) (Nat.zero_le _) (c_Mo_areaOf) ?_
            rintro _ N4 ⟨rfl, hN4⟩
            rw [hN4]
            show Wp _ 236 285 [(2, ((116 : Nat) : Int)), (0, (rs : Int)), (0, (cs : Int)), (0, (K : Int)), (0, (al : Int)), (0, (nA T rs cs : Int)), v6, (0, ((lw cs : Nat) : Int)), (0, (p : Int))] [(0, ((64 * rs + p : Nat) : Int)), (0, 2), (0, (K : Int)), (2, ((116 : Nat) : Int))] N _ _ _
            refine g_iload_n lk_236_285 rfl ?_
            refine g_iload_n lk_236_286 rfl ?_
            refine g_iload lk_236_287 rfl ?_
            refine g_iconst lk_236_289 ?_
            refine g_ixor lk_236_290 ?_
            refine g_iand lk_236_291 ?_
            refine g_top (z := (pm_and (cs : Int) (pm_xor (p : Int) (-1)))) (z' := ((cs - p : Nat) : Int)) ((t3 (by rw [← t1]; exact decide_eq_true (Classical.byContradiction h2)))) ?_
            refine g_static (Qc := _) lk_236_292 (by decide) rfl (Nat.le_of_ble_eq_true rfl) rfl rfl (Nat.le_of_ble_eq_true rfl) (Nat.le_of_ble_eq_true rfl) (Nat.zero_le _) (Nat.zero_le _) (c_Mo_areaOf) ?_
            rintro _ N5 ⟨rfl, hN5⟩
            rw [hN5]
            show Wp _ 236 295 [(2, ((116 : Nat) : Int)), (0, (rs : Int)), (0, (cs : Int)), (0, (K : Int)), (0, (al : Int)), (0, (nA T rs cs : Int)), v6, (0, ((lw cs : Nat) : Int)), (0, (p : Int))] [(0, ((64 * rs + (cs - p) : Nat) : Int)), (0, ((64 * rs + p : Nat) : Int)), (0, 2), (0, (K : Int)), (2, ((116 : Nat) : Int))] N _ _ _
            refine g_iload lk_236_295 rfl ?_
            refine g_iload lk_236_297 rfl ?_
            have s1 : spC cs p = true := by
              unfold spC
              rw [Bool.and_eq_true]
              refine ⟨by rw [← t1]; exact decide_eq_true (Classical.byContradiction h2), ?_⟩
              rw [decide_eq_false h3] at t2
              exact (Bool.not_eq_false' .. ▸ t2.symm)
            refine g_virtual (p := 116) (Qc := _) lk_236_299 rfl (Nat.le_of_ble_eq_true rfl) rfl rfl (lay.on (by decide) rfl) (Nat.le_of_ble_eq_true rfl) (Nat.le_of_ble_eq_true rfl) (Nat.zero_le _) (Nat.zero_le _) (yes s1) ?_
            rintro _ N' ⟨rfl, l2, f2, o2, k5⟩
            have k2 := cv s1 N' k5
            refine g_iinc (ls' := [(2, ((116 : Nat) : Int)), (0, (rs : Int)), (0, (cs : Int)), (0, (K : Int)), (0, (al : Int)), (0, (nA T rs cs : Int)), v6, (0, ((lw cs : Nat) : Int)), (0, (p : Int) + 1)]) lk_236_302 rfl rfl rfl ?_
            refine g_goto (t := 253) lk_236_305 rfl ?_
            exact ih (p + 1) v6 N' (by omega) (by omega) l2 (hF.trans f2) (fun J E' B' X' j1 j2 hJ => o2 J E' B' X' j1 j2 (hO J E' B' X' j1 j2 hJ)) k2
  have loopA : ∀ (m p : Nat) (z6 : Int) (N : pm_M), p + m = rs → 1 ≤ p → Lay N → Fr [142, 143, 144] M N → Oth M N K → TbK N K (EA T rs cs p) (if al = 1 then B0 else BA T rs cs p) (if al = 1 then X0 else XA T rs cs p) → Wp (d + 3) 236 189 [(2, ((116 : Nat) : Int)), (0, (rs : Int)), (0, (cs : Int)), (0, (K : Int)), (0, (al : Int)), (0, (nA T rs cs : Int)), (0, z6), (0, ((lw rs : Nat) : Int)), (0, (p : Int))] [] N mc ms Q := by
    intro m
    induction m with
    | zero =>
      intro p z6 N hp p1 lay hF hO hK'
      have ep : p = rs := by omega
      refine g_iload lk_236_189 rfl ?_
      refine g_iload_n lk_236_191 rfl ?_
      refine g_icmp (t := 244) lk_236_192 rfl (by first | (unfold pm_inI; omega) | exact pm_and_in _ _ | exact pm_shr_in _ _ | exact pm_or_in _ _ | exact pm_xor_in _ _ | exact pm_shl_in _ _ | exact pm_cmp_in _ _ | exact pm_b8_in _ | (unfold pm_inI; split <;> omega)) (by first | (unfold pm_inI; omega) | exact pm_and_in _ _ | exact pm_shr_in _ _ | exact pm_or_in _ _ | exact pm_xor_in _ _ | exact pm_shl_in _ _ | exact pm_cmp_in _ _ | exact pm_b8_in _ | (unfold pm_inI; split <;> omega)) (fun h1 => ?_) (fun h1 => ?_)
      · replace h1 : (rs : Int) ≤ (p : Int) := h1
        rw [ep] at hK'
        have q0 := (lw_tab ⟨cs, c64⟩ (by show cs ≠ 0; have := hi.2.2.1; omega)).1
        replace q0 : pm_and (cs : Int) (-(cs : Int)) = ((lw cs : Nat) : Int) := q0
        refine g_iload_n lk_236_244 rfl ?_
        refine g_iload_n lk_236_245 rfl ?_
        refine g_ineg lk_236_246 ?_
        refine g_iand lk_236_247 ?_
        refine g_top q0 ?_
        refine g_istore (ls' := [(2, ((116 : Nat) : Int)), (0, (rs : Int)), (0, (cs : Int)), (0, (K : Int)), (0, (al : Int)), (0, (nA T rs cs : Int)), (0, z6), (0, ((lw cs : Nat) : Int)), (0, (p : Int))]) lk_236_248 rfl rfl ?_
        refine g_iconst lk_236_250 ?_
        refine g_istore (ls' := [(2, ((116 : Nat) : Int)), (0, (rs : Int)), (0, (cs : Int)), (0, (K : Int)), (0, (al : Int)), (0, (nA T rs cs : Int)), (0, z6), (0, ((lw cs : Nat) : Int)), (0, 1)]) lk_236_251 rfl rfl ?_
        refine loopB (cs - 1) 1 _ N (by have := hi.2.2.1; omega) (Nat.le_refl _) lay hF hO (hK'.congr (fun b _ => ?_) (fun k _ => ?_) (fun i _ => ?_))
        · have z : mn (spC cs) (fB T rs cs b) 1 = 1000000 := mn1 _ (sp0 c64 (by have := hi.2.2.1; omega))
          unfold EB
          rw [z]
          have : EA T rs cs rs b ≤ 36 := by unfold EA; omega
          split <;> omega
        · by_cases e : al = 1
          · rw [if_pos e, if_pos e]
          · rw [if_neg e, if_neg e]
            have z : mn (spC cs) (cB T rs cs k) 1 = 1000000 := mn1 _ (sp0 c64 (by have := hi.2.2.1; omega))
            unfold BB
            rw [z]
            have : BA T rs cs rs k ≤ 1000000 := mn_far _ _ _
            omega
        · by_cases e : al = 1
          · rw [if_pos e, if_pos e]
          · rw [if_neg e, if_neg e]
            have z : ∀ t, mn (spC cs) (vB T rs cs t) 1 = 1000000 := fun t => mn1 _ (sp0 c64 (by have := hi.2.2.1; omega))
            unfold XB
            rw [z, z]
            have := xa rs i
            by_cases e0 : i = 0
            · rw [if_pos e0, e0]
            · rw [if_neg e0]
              split <;> omega
      · replace h1 : ¬ ((rs : Int) ≤ (p : Int)) := h1
        omega
    | succ m ih =>
      intro p z6 N hp p1 lay hF hO hK'
      have hM : MoAt N T := hM0.fr hF (by decide) (by decide) (by decide)
      obtain ⟨t1, t2, t3⟩ := part_tab ⟨rs, r64⟩ ⟨p, by omega⟩
      replace t1 : decide (pm_and (p : Int) (pm_xor (rs : Int) (-1)) = 0) = Sb p rs := t1
      have t2 : decide (pm_and (p : Int) ((lw rs : Nat) : Int) = 0) = !(p.testBit (fstb rs)) := t2 (show rs ≠ 0 by omega)
      replace t3 : Sb p rs = true → pm_and (rs : Int) (pm_xor (p : Int) (-1)) = ((rs - p : Nat) : Int) := t3
      have no : ¬ spC rs p = true → Wp (d + 3) 236 189 [(2, ((116 : Nat) : Int)), (0, (rs : Int)), (0, (cs : Int)), (0, (K : Int)), (0, (al : Int)), (0, (nA T rs cs : Int)), (0, z6), (0, ((lw rs : Nat) : Int)), (0, ((p + 1 : Nat) : Int))] [] N mc ms Q := fun h =>
        ih (p + 1) z6 N (by omega) (by omega) lay hF hO (hK'.congr (fun b _ => (EA_s.2 h b).symm) (fun k _ => by by_cases e : al = 1; (rw [if_pos e, if_pos e]); (rw [if_neg e, if_neg e]; exact (BA_s.2 h k).symm)) (fun i _ => by by_cases e : al = 1; (rw [if_pos e, if_pos e]); (rw [if_neg e, if_neg e]; exact (XA_s.2 h i).symm)))
      have yes : spC rs p = true → pm_E (d + 2) 237 [(2, ((116 : Nat) : Int)), (0, (K : Int)), (0, 1), (0, ((64 * p + cs : Nat) : Int)), (0, ((64 * (rs - p) + cs : Nat) : Int)), (0, (nA T rs cs : Int)), (0, (al : Int))] N 0 0 (fun ρ N' => ρ = none ∧ Lay N' ∧ Fr [142, 143, 144] N N' ∧ Oth N N' K ∧ TbK N' K (pE (tA T) (EA T rs cs p) (fun b => ER T b p cs) (fun b => ER T b (rs - p) cs)) (if al = 1 then (if al = 1 then B0 else BA T rs cs p) else pB (tA T) (nA T rs cs) (if al = 1 then B0 else BA T rs cs p) (fun h => BW T h p cs) (fun h => BW T h (rs - p) cs)) (if al = 1 then (if al = 1 then X0 else XA T rs cs p) else pT (tA T) 0 (if al = 1 then X0 else XA T rs cs p) (TX T p cs) (TX T (rs - p) cs) 6)) := fun h => by
        obtain ⟨c1, c2, -⟩ := spC_s r64 (by omega) (by omega) h
        have in1 : inT T p cs := ⟨c1, by have := hi.2.1; omega, hi.2.2.1, hi.2.2.2⟩
        have in2 : inT T (rs - p) cs := ⟨c2, by have := hi.2.1; omega, hi.2.2.1, hi.2.2.2⟩
        have k1 := oth_sub hO _ _ in1 (by omega)
        have k2 := oth_sub hO _ _ in2 (by omega)
        have := c_Mo_layParted0 (d := d + 1) (mc := 0) (ms := 0) lay (K := K) (K1 := 64 * p + cs) (K2 := 64 * (rs - p) + cs) (its := tA T) (asked := nA T rs cs) (al := al) K4 (by omega) (by omega) (by omega) (by omega) hK' k1 k2 (bdA p) (ArK_bd hT in1) (ArK_bd hT in2) hM.2.2.1 ca.2 a36 al1
        exact this
      have cv : spC rs p = true → ∀ N' : pm_M, TbK N' K (pE (tA T) (EA T rs cs p) (fun b => ER T b p cs) (fun b => ER T b (rs - p) cs)) (if al = 1 then (if al = 1 then B0 else BA T rs cs p) else pB (tA T) (nA T rs cs) (if al = 1 then B0 else BA T rs cs p) (fun h => BW T h p cs) (fun h => BW T h (rs - p) cs)) (if al = 1 then (if al = 1 then X0 else XA T rs cs p) else pT (tA T) 0 (if al = 1 then X0 else XA T rs cs p) (TX T p cs) (TX T (rs - p) cs) 6) → TbK N' K (EA T rs cs (p + 1)) (if al = 1 then B0 else BA T rs cs (p + 1)) (if al = 1 then X0 else XA T rs cs (p + 1)) := fun h N' q5 => by
        refine q5.congr (fun b _ => (EA_s.1 h b).symm) (fun k hk => ?_) (fun i hi => ?_)
        · by_cases e : al = 1
          · rw [if_pos e, if_pos e, if_pos e]
          · rw [if_neg e, if_neg e, if_neg e]; exact (BA_s.1 h k hk).symm
        · by_cases e : al = 1
          · rw [if_pos e, if_pos e, if_pos e]
          · rw [if_neg e, if_neg e, if_neg e]; exact (XA_s.1 h i hi).symm
      refine g_iload lk_236_189 rfl ?_
      refine g_iload_n lk_236_191 rfl ?_
      refine g_icmp (t := 244) lk_236_192 rfl (by first | (unfold pm_inI; omega) | exact pm_and_in _ _ | exact pm_shr_in _ _ | exact pm_or_in _ _ | exact pm_xor_in _ _ | exact pm_shl_in _ _ | exact pm_cmp_in _ _ | exact pm_b8_in _ | (unfold pm_inI; split <;> omega)) (by first | (unfold pm_inI; omega) | exact pm_and_in _ _ | exact pm_shr_in _ _ | exact pm_or_in _ _ | exact pm_xor_in _ _ | exact pm_shl_in _ _ | exact pm_cmp_in _ _ | exact pm_b8_in _ | (unfold pm_inI; split <;> omega)) (fun h1 => ?_) (fun h1 => ?_)
      · replace h1 : (rs : Int) ≤ (p : Int) := h1
        omega
      · replace h1 : ¬ ((rs : Int) ≤ (p : Int)) := h1
        refine g_iload lk_236_195 rfl ?_
        refine g_iload_n lk_236_197 rfl ?_
        refine g_iconst lk_236_198 ?_
        refine g_ixor lk_236_199 ?_
        refine g_iand lk_236_200 ?_
        refine g_if (t := 238) lk_236_201 rfl (by first | (unfold pm_inI; omega) | exact pm_and_in _ _ | exact pm_shr_in _ _ | exact pm_or_in _ _ | exact pm_xor_in _ _ | exact pm_shl_in _ _ | exact pm_cmp_in _ _ | exact pm_b8_in _ | (unfold pm_inI; split <;> omega)) (fun h2 => ?_) (fun h2 => ?_)
        · replace h2 : ¬ (pm_and (p : Int) (pm_xor (rs : Int) (-1))) = 0 := h2
          refine g_iinc (ls' := [(2, ((116 : Nat) : Int)), (0, (rs : Int)), (0, (cs : Int)), (0, (K : Int)), (0, (al : Int)), (0, (nA T rs cs : Int)), (0, z6), (0, ((lw rs : Nat) : Int)), (0, ((p : Int) + 1))]) lk_236_238 rfl rfl rfl ?_
          refine g_goto (t := 189) lk_236_241 rfl ?_
          refine no (fun q => ?_)
          unfold spC at q
          rw [Bool.and_eq_true, ← t1, decide_eq_true_iff] at q
          exact h2 q.1
        · replace h2 : ¬ (¬ (pm_and (p : Int) (pm_xor (rs : Int) (-1))) = 0) := h2
          refine g_iload lk_236_204 rfl ?_
          refine g_iload lk_236_206 rfl ?_
          refine g_iand lk_236_208 ?_
          refine g_if (t := 238) lk_236_209 rfl (by first | (unfold pm_inI; omega) | exact pm_and_in _ _ | exact pm_shr_in _ _ | exact pm_or_in _ _ | exact pm_xor_in _ _ | exact pm_shl_in _ _ | exact pm_cmp_in _ _ | exact pm_b8_in _ | (unfold pm_inI; split <;> omega)) (fun h3 => ?_) (fun h3 => ?_)
          · replace h3 : (pm_and (p : Int) ((lw rs : Nat) : Int)) = 0 := h3
            refine g_iinc (ls' := [(2, ((116 : Nat) : Int)), (0, (rs : Int)), (0, (cs : Int)), (0, (K : Int)), (0, (al : Int)), (0, (nA T rs cs : Int)), (0, z6), (0, ((lw rs : Nat) : Int)), (0, ((p : Int) + 1))]) lk_236_238 rfl rfl rfl ?_
            refine g_goto (t := 189) lk_236_241 rfl ?_
            refine no (fun q => ?_)
            unfold spC at q
            rw [Bool.and_eq_true] at q
            rw [q.2] at t2
            exact absurd h3 (of_decide_eq_false t2)
          · replace h3 : ¬ ((pm_and (p : Int) ((lw rs : Nat) : Int)) = 0) := h3
            refine g_aload_n lk_236_212 rfl ?_
            refine g_iload_n lk_236_213 rfl ?_
            refine g_iconst lk_236_214 ?_
            refine g_iload lk_236_215 rfl ?_
            refine g_iload_n lk_236_217 rfl ?_
            refine g_static (Qc := _) lk_236_218 (by decide) rfl (Nat.le_of_ble_eq_true rfl) rfl rfl (Nat.le_of_ble_eq_true rfl) (Nat.le_of_ble_eq_true rfl) (Nat.zero_le _) (Nat.zero_le _) (c_Mo_areaOf) ?_
            rintro _ N4 ⟨rfl, hN4⟩
            rw [hN4]
            show Wp _ 236 221 [(2, ((116 : Nat) : Int)), (0, (rs : Int)), (0, (cs : Int)), (0, (K : Int)), (0, (al : Int)), (0, (nA T rs cs : Int)), (0, z6), (0, ((lw rs : Nat) : Int)), (0, (p : Int))] [(0, ((64 * p + cs : Nat) : Int)), (0, 1), (0, (K : Int)), (2, ((116 : Nat) : Int))] N _ _ _
            refine g_iload_n lk_236_221 rfl ?_
            refine g_iload lk_236_222 rfl ?_
            refine g_iconst lk_236_224 ?_
            refine g_ixor lk_236_225 ?_
            refine g_iand lk_236_226 ?_
            refine g_top (z := (pm_and (rs : Int) (pm_xor (p : Int) (-1)))) (z' := ((rs - p : Nat) : Int)) ((t3 (by rw [← t1]; exact decide_eq_true (Classical.byContradiction h2)))) ?_
            refine g_iload_n lk_236_227 rfl ?_
            refine g_static (Qc := _) lk_236_228 (by decide) rfl (Nat.le_of_ble_eq_true rfl) rfl rfl (Nat.le_of_ble_eq_true rfl) (Nat.le_of_ble_eq_true rfl) (Nat.zero_le _) (Nat.zero_le _) (c_Mo_areaOf) ?_
            rintro _ N5 ⟨rfl, hN5⟩
            rw [hN5]
            show Wp _ 236 231 [(2, ((116 : Nat) : Int)), (0, (rs : Int)), (0, (cs : Int)), (0, (K : Int)), (0, (al : Int)), (0, (nA T rs cs : Int)), (0, z6), (0, ((lw rs : Nat) : Int)), (0, (p : Int))] [(0, ((64 * (rs - p) + cs : Nat) : Int)), (0, ((64 * p + cs : Nat) : Int)), (0, 1), (0, (K : Int)), (2, ((116 : Nat) : Int))] N _ _ _
            refine g_iload lk_236_231 rfl ?_
            refine g_iload lk_236_233 rfl ?_
            have s1 : spC rs p = true := by
              unfold spC
              rw [Bool.and_eq_true]
              refine ⟨by rw [← t1]; exact decide_eq_true (Classical.byContradiction h2), ?_⟩
              rw [decide_eq_false h3] at t2
              exact (Bool.not_eq_false' .. ▸ t2.symm)
            refine g_virtual (p := 116) (Qc := _) lk_236_235 rfl (Nat.le_of_ble_eq_true rfl) rfl rfl (lay.on (by decide) rfl) (Nat.le_of_ble_eq_true rfl) (Nat.le_of_ble_eq_true rfl) (Nat.zero_le _) (Nat.zero_le _) (yes s1) ?_
            rintro _ N' ⟨rfl, l2, f2, o2, k5⟩
            have k2 := cv s1 N' k5
            refine g_iinc (ls' := [(2, ((116 : Nat) : Int)), (0, (rs : Int)), (0, (cs : Int)), (0, (K : Int)), (0, (al : Int)), (0, (nA T rs cs : Int)), (0, z6), (0, ((lw rs : Nat) : Int)), (0, (p : Int) + 1)]) lk_236_238 rfl rfl rfl ?_
            refine g_goto (t := 189) lk_236_241 rfl ?_
            exact ih (p + 1) z6 N' (by omega) (by omega) l2 (hF.trans f2) (fun J E' B' X' j1 j2 hJ => o2 J E' B' X' j1 j2 (hO J E' B' X' j1 j2 hJ)) k2
  have inE : ∀ (m b : Nat) (v8 : pm_V) (N : pm_M), b + m = 21 → Lay N → Fr [142, 143, 144] M N → Oth M N K → (∀ h, h < 3 → pm_ct N 142 (4096 * h + K) = ((if al = 1 then B0 h else 1000000 : Nat) : Int)) → (∀ i, i < 12 → pm_ct N 143 (4096 * i + K) = ((if al = 1 then X0 i else 1000000 : Nat) : Int)) → (∀ e, e < b → pm_ct N 144 (21 * K + e) = (e0 T rs cs : Int)) → Wp (d + 3) 236 150 [(2, ((116 : Nat) : Int)), (0, (rs : Int)), (0, (cs : Int)), (0, (K : Int)), (0, (al : Int)), (0, (nA T rs cs : Int)), (0, (mx T rs cs 10 : Int)), (0, (b : Int)), v8] [] N mc ms Q := by
    intro m
    induction m with
    | zero =>
      intro b v8 N hb lay hF hO gB gX gE
      have q0 := (lw_tab ⟨rs, r64⟩ (by show rs ≠ 0; have := hi.1; omega)).1
      replace q0 : pm_and (rs : Int) (-(rs : Int)) = ((lw rs : Nat) : Int) := q0
      have z : ∀ f : Nat → Nat, mn (spC rs) f 1 = 1000000 := fun f => mn1 f (sp0 r64 (by have := hi.1; omega))
      refine g_iload lk_236_150 rfl ?_
      refine g_bipush lk_236_152 ?_
      refine g_icmp (t := 180) lk_236_154 rfl (by first | (unfold pm_inI; omega) | exact pm_and_in _ _ | exact pm_shr_in _ _ | exact pm_or_in _ _ | exact pm_xor_in _ _ | exact pm_shl_in _ _ | exact pm_cmp_in _ _ | exact pm_b8_in _ | (unfold pm_inI; split <;> omega)) (by first | (unfold pm_inI; omega) | exact pm_and_in _ _ | exact pm_shr_in _ _ | exact pm_or_in _ _ | exact pm_xor_in _ _ | exact pm_shl_in _ _ | exact pm_cmp_in _ _ | exact pm_b8_in _ | (unfold pm_inI; split <;> omega)) (fun h1 => ?_) (fun h1 => ?_)
      · replace h1 : 21 ≤ (b : Int) := h1
        refine g_iload_n lk_236_180 rfl ?_
        refine g_iload_n lk_236_181 rfl ?_
        refine g_ineg lk_236_182 ?_
        refine g_iand lk_236_183 ?_
        refine g_top (z := (pm_and (rs : Int) (-(rs : Int)))) (z' := ((lw rs : Nat) : Int)) (q0) ?_
        refine g_istore (ls' := [(2, ((116 : Nat) : Int)), (0, (rs : Int)), (0, (cs : Int)), (0, (K : Int)), (0, (al : Int)), (0, (nA T rs cs : Int)), (0, (mx T rs cs 10 : Int)), (0, ((lw rs : Nat) : Int)), v8]) lk_236_184 rfl rfl ?_
        refine g_iconst lk_236_186 ?_
        refine g_istore (ls' := [(2, ((116 : Nat) : Int)), (0, (rs : Int)), (0, (cs : Int)), (0, (K : Int)), (0, (al : Int)), (0, (nA T rs cs : Int)), (0, (mx T rs cs 10 : Int)), (0, ((lw rs : Nat) : Int)), (0, 1)]) lk_236_187 rfl rfl ?_
        refine loopA (rs - 1) 1 _ N (by have := hi.1; omega) (Nat.le_refl _) lay hF hO ⟨fun e he => ?_, fun h hh => ?_, fun i hi' => ?_⟩
        · have q : e0 T rs cs = EA T rs cs 1 e := by
            unfold EA
            rw [z]
            split <;> omega
          rw [gE e (by omega), q]
        · have q : (if al = 1 then B0 h else 1000000) = (if al = 1 then B0 else BA T rs cs 1) h := by
            by_cases e : al = 1
            · rw [if_pos e, if_pos e]
            · rw [if_neg e, if_neg e]; unfold BA; rw [z]
          rw [gB h hh, q]
        · have q : (if al = 1 then X0 i else 1000000) = (if al = 1 then X0 else XA T rs cs 1) i := by
            by_cases e : al = 1
            · rw [if_pos e, if_pos e]
            · rw [if_neg e, if_neg e]
              unfold XA
              rw [z, z]
              by_cases q1 : i < 6
              · rw [if_pos q1]
              · rw [if_neg q1]
                by_cases q2 : i = 6
                · rw [if_pos q2]
                · rw [if_neg q2]
          rw [gX i hi', q]
      · replace h1 : ¬ (21 ≤ (b : Int)) := h1
        omega
    | succ m ih =>
      intro b v8 N hb lay hF hO gB gX gE
      have m1 := mx_nA T rs cs 10 (by omega)
      obtain ⟨i0, hi0⟩ : ∃ i, i = 21 * K + b := ⟨_, rfl⟩
      have t0 : (21 * (K : Int)) + (b : Int) = (i0 : Int) := by omega
      refine g_iload lk_236_150 rfl ?_
      refine g_bipush lk_236_152 ?_
      refine g_icmp (t := 180) lk_236_154 rfl (by first | (unfold pm_inI; omega) | exact pm_and_in _ _ | exact pm_shr_in _ _ | exact pm_or_in _ _ | exact pm_xor_in _ _ | exact pm_shl_in _ _ | exact pm_cmp_in _ _ | exact pm_b8_in _ | (unfold pm_inI; split <;> omega)) (by first | (unfold pm_inI; omega) | exact pm_and_in _ _ | exact pm_shr_in _ _ | exact pm_or_in _ _ | exact pm_xor_in _ _ | exact pm_shl_in _ _ | exact pm_cmp_in _ _ | exact pm_b8_in _ | (unfold pm_inI; split <;> omega)) (fun h1 => ?_) (fun h1 => ?_)
      · replace h1 : 21 ≤ (b : Int) := h1
        omega
      · replace h1 : ¬ (21 ≤ (b : Int)) := h1
        refine g_aload_n lk_236_157 rfl ?_
        refine g_getfield lk_236_158 rfl (lay.on (by decide) rfl) (v := ((144 : Nat) : Int)) (lay.rf rfl) ?_
        refine g_bipush lk_236_161 ?_
        refine g_iload_n lk_236_163 rfl ?_
        refine g_imul lk_236_164 ?_
        refine g_iload lk_236_165 rfl ?_
        refine g_iadd lk_236_167 ?_
        refine g_top (z := ((21 * (K : Int)) + (b : Int))) (z' := (i0 : Int)) (t0) ?_
        refine g_iload lk_236_168 rfl ?_
        refine g_iload lk_236_170 rfl ?_
        refine g_isub lk_236_172 ?_
        have lay2 : Lay (Mu [(144, pm_upd (pm_ct N 144) i0 ((nA T rs cs : Int) - (mx T rs cs 10 : Int)))] N) := lay.muA (l := []) (a := 144) (f := pm_upd (pm_ct N 144) i0 ((nA T rs cs : Int) - (mx T rs cs 10 : Int))) rfl rfl
        refine m_iastore (u := []) (u' := [(144, pm_upd (pm_ct N 144) i0 ((nA T rs cs : Int) - (mx T rs cs 10 : Int)))]) (M := N) lk_236_173 (lay.ay (by decide) rfl) (by omega) (j := i0) (by omega) rfl ?_
        refine g_iinc (ls' := [(2, ((116 : Nat) : Int)), (0, (rs : Int)), (0, (cs : Int)), (0, (K : Int)), (0, (al : Int)), (0, (nA T rs cs : Int)), (0, (mx T rs cs 10 : Int)), (0, ((b : Int) + 1)), v8]) lk_236_174 rfl rfl rfl ?_
        refine g_goto (t := 150) lk_236_177 rfl ?_
        refine ih (b + 1) _ _ (by omega) lay2 (hF.trans (Fr.mu _ _ rfl)) (fun J E' B' X' j1 j2 hJ => ?_) (fun h hh => by rw [Mu_ct]; exact gB h hh) (fun i hi' => by rw [Mu_ct]; exact gX i hi') (fun e he => ?_)
        · have := hO J E' B' X' j1 j2 hJ
          refine ⟨fun b' hb' => ?_, fun h hh => by rw [Mu_ct]; exact this.2.1 h hh, fun i hi' => by rw [Mu_ct]; exact this.2.2 i hi'⟩
          rw [Mu_ct]
          show pm_upd (pm_ct N 144) i0 _ _ = _
          rw [pm_upd_ne (by omega)]; exact this.1 b' hb'
        · rw [Mu_ct]
          show pm_upd (pm_ct N 144) i0 _ _ = _
          by_cases q : e = b
          · rw [q, ← hi0, pm_upd_eq]; unfold e0; omega
          · rw [pm_upd_ne (by omega)]; exact gE e (by omega)
  have inM : ∀ (m v : Nat) (v8 : pm_V) (N : pm_M), v + m = 10 → Lay N → Fr [142, 143, 144] M N → Oth M N K → (∀ h, h < 3 → pm_ct N 142 (4096 * h + K) = ((if al = 1 then B0 h else 1000000 : Nat) : Int)) → (∀ i, i < 12 → pm_ct N 143 (4096 * i + K) = ((if al = 1 then X0 i else 1000000 : Nat) : Int)) → Wp (d + 3) 236 119 [(2, ((116 : Nat) : Int)), (0, (rs : Int)), (0, (cs : Int)), (0, (K : Int)), (0, (al : Int)), (0, (nA T rs cs : Int)), (0, (mx T rs cs v : Int)), (0, (v : Int)), v8] [] N mc ms Q := by
    intro m
    induction m with
    | zero =>
      intro v v8 N hv lay hF hO gB gX
      refine g_iload lk_236_119 rfl ?_
      refine g_bipush lk_236_121 ?_
      refine g_icmp (t := 147) lk_236_123 rfl (by first | (unfold pm_inI; omega) | exact pm_and_in _ _ | exact pm_shr_in _ _ | exact pm_or_in _ _ | exact pm_xor_in _ _ | exact pm_shl_in _ _ | exact pm_cmp_in _ _ | exact pm_b8_in _ | (unfold pm_inI; split <;> omega)) (by first | (unfold pm_inI; omega) | exact pm_and_in _ _ | exact pm_shr_in _ _ | exact pm_or_in _ _ | exact pm_xor_in _ _ | exact pm_shl_in _ _ | exact pm_cmp_in _ _ | exact pm_b8_in _ | (unfold pm_inI; split <;> omega)) (fun h1 => ?_) (fun h1 => ?_)
      · replace h1 : 10 ≤ (v : Int) := h1
        refine g_iconst lk_236_147 ?_
        refine g_istore (ls' := [(2, ((116 : Nat) : Int)), (0, (rs : Int)), (0, (cs : Int)), (0, (K : Int)), (0, (al : Int)), (0, (nA T rs cs : Int)), (0, (mx T rs cs v : Int)), (0, 0), v8]) lk_236_148 rfl rfl ?_
        rw [show v = 10 by omega]
        exact inE 21 0 _ N rfl lay hF hO gB gX (fun e he => absurd he (Nat.not_lt_zero e))
      · replace h1 : ¬ (10 ≤ (v : Int)) := h1
        omega
    | succ m ih =>
      intro v v8 N hv lay hF hO gB gX
      have hM : MoAt N T := hM0.fr hF (by decide) (by decide) (by decide)
      have b1 := nV_36 hT rs cs v
      have b2 := mx_nA T rs cs v (by omega)
      have e2 : max ((mx T rs cs v : Nat) : Int) ((nV T rs cs v : Nat) : Int) = ((mx T rs cs (v + 1) : Nat) : Int) := by rw [mx_s]; omega
      refine g_iload lk_236_119 rfl ?_
      refine g_bipush lk_236_121 ?_
      refine g_icmp (t := 147) lk_236_123 rfl (by first | (unfold pm_inI; omega) | exact pm_and_in _ _ | exact pm_shr_in _ _ | exact pm_or_in _ _ | exact pm_xor_in _ _ | exact pm_shl_in _ _ | exact pm_cmp_in _ _ | exact pm_b8_in _ | (unfold pm_inI; split <;> omega)) (by first | (unfold pm_inI; omega) | exact pm_and_in _ _ | exact pm_shr_in _ _ | exact pm_or_in _ _ | exact pm_xor_in _ _ | exact pm_shl_in _ _ | exact pm_cmp_in _ _ | exact pm_b8_in _ | (unfold pm_inI; split <;> omega)) (fun h1 => ?_) (fun h1 => ?_)
      · replace h1 : 10 ≤ (v : Int) := h1
        omega
      · replace h1 : ¬ (10 ≤ (v : Int)) := h1
        refine g_iload lk_236_126 rfl ?_
        refine g_aload_n lk_236_128 rfl ?_
        refine g_iload_n lk_236_129 rfl ?_
        refine g_iload_n lk_236_130 rfl ?_
        refine g_iload lk_236_131 rfl ?_
        refine g_virtual (p := 116) (Qc := _) lk_236_133 rfl (Nat.le_of_ble_eq_true rfl) rfl rfl (lay.on (by decide) rfl) (Nat.le_of_ble_eq_true rfl) (Nat.le_of_ble_eq_true rfl) (Nat.zero_le _) (Nat.zero_le _) (c_Mo_countV lay hT hM r64 c64 (by omega)) ?_
        rintro _ N2 ⟨rfl, hN2⟩
        rw [hN2]
        show Wp _ 236 136 [(2, ((116 : Nat) : Int)), (0, (rs : Int)), (0, (cs : Int)), (0, (K : Int)), (0, (al : Int)), (0, (nA T rs cs : Int)), (0, (mx T rs cs v : Int)), (0, (v : Int)), v8] [(0, (nV T rs cs v : Int)), (0, (mx T rs cs v : Int))] N _ _ _
        refine g_static (Qc := _) lk_236_136 (by decide) rfl (Nat.le_of_ble_eq_true rfl) rfl rfl (Nat.le_of_ble_eq_true rfl) (Nat.le_of_ble_eq_true rfl) (Nat.zero_le _) (Nat.zero_le _) (c_Mo_greater (by unfold pm_inI; omega) (by unfold pm_inI; omega)) ?_
        rintro _ N3 ⟨rfl, hN3⟩
        rw [hN3]
        show Wp _ 236 139 [(2, ((116 : Nat) : Int)), (0, (rs : Int)), (0, (cs : Int)), (0, (K : Int)), (0, (al : Int)), (0, (nA T rs cs : Int)), (0, (mx T rs cs v : Int)), (0, (v : Int)), v8] [(0, (max (mx T rs cs v : Int) (nV T rs cs v : Int)))] N _ _ _
        refine g_top (z := (max (mx T rs cs v : Int) (nV T rs cs v : Int))) (z' := (mx T rs cs (v + 1) : Int)) (e2) ?_
        refine g_istore (ls' := [(2, ((116 : Nat) : Int)), (0, (rs : Int)), (0, (cs : Int)), (0, (K : Int)), (0, (al : Int)), (0, (nA T rs cs : Int)), (0, (mx T rs cs (v + 1) : Int)), (0, (v : Int)), v8]) lk_236_139 rfl rfl ?_
        refine g_iinc (ls' := [(2, ((116 : Nat) : Int)), (0, (rs : Int)), (0, (cs : Int)), (0, (K : Int)), (0, (al : Int)), (0, (nA T rs cs : Int)), (0, (mx T rs cs (v + 1) : Int)), (0, ((v : Int) + 1)), v8]) lk_236_141 rfl rfl rfl ?_
        refine g_goto (t := 119) lk_236_144 rfl ?_
        exact ih (v + 1) _ N (by omega) lay hF hO gB gX
  have inX : ∀ (m i : Nat) (v7 v8 : pm_V) (N : pm_M), i + m = 12 → Lay N → Fr [142, 143, 144] M N → Oth M N K → (∀ h, h < 3 → pm_ct N 142 (4096 * h + K) = ((if al = 1 then B0 h else 1000000 : Nat) : Int)) → (∀ j, j < i → pm_ct N 143 (4096 * j + K) = ((if al = 1 then X0 j else 1000000 : Nat) : Int)) → Wp (d + 3) 236 75 [(2, ((116 : Nat) : Int)), (0, (rs : Int)), (0, (cs : Int)), (0, (K : Int)), (0, (al : Int)), (0, (nA T rs cs : Int)), (0, (i : Int)), v7, v8] [] N mc ms Q := by
    intro m
    induction m with
    | zero =>
      intro i v7 v8 N hi' lay hF hO gB gX
      refine g_iload lk_236_75 rfl ?_
      refine g_bipush lk_236_77 ?_
      refine g_icmp (t := 113) lk_236_79 rfl (by first | (unfold pm_inI; omega) | exact pm_and_in _ _ | exact pm_shr_in _ _ | exact pm_or_in _ _ | exact pm_xor_in _ _ | exact pm_shl_in _ _ | exact pm_cmp_in _ _ | exact pm_b8_in _ | (unfold pm_inI; split <;> omega)) (by first | (unfold pm_inI; omega) | exact pm_and_in _ _ | exact pm_shr_in _ _ | exact pm_or_in _ _ | exact pm_xor_in _ _ | exact pm_shl_in _ _ | exact pm_cmp_in _ _ | exact pm_b8_in _ | (unfold pm_inI; split <;> omega)) (fun h1 => ?_) (fun h1 => ?_)
      · replace h1 : 12 ≤ (i : Int) := h1
        refine g_iconst lk_236_113 ?_
        refine g_istore (ls' := [(2, ((116 : Nat) : Int)), (0, (rs : Int)), (0, (cs : Int)), (0, (K : Int)), (0, (al : Int)), (0, (nA T rs cs : Int)), (0, 0), v7, v8]) lk_236_114 rfl rfl ?_
        refine g_iconst lk_236_116 ?_
        refine g_istore (ls' := [(2, ((116 : Nat) : Int)), (0, (rs : Int)), (0, (cs : Int)), (0, (K : Int)), (0, (al : Int)), (0, (nA T rs cs : Int)), (0, 0), (0, 0), v8]) lk_236_117 rfl rfl ?_
        exact inM 10 0 _ N rfl lay hF hO gB (fun j hj => gX j (by omega))
      · replace h1 : ¬ (12 ≤ (i : Int)) := h1
        omega
    | succ m ih =>
      intro i v7 v8 N hi' lay hF hO gB gX
      obtain ⟨i0, hi0⟩ : ∃ j, j = 4096 * i + K := ⟨_, rfl⟩
      have t0 : (4096 * (i : Int)) + (K : Int) = (i0 : Int) := by omega
      have next : ∀ (z : Int) (v7 v8 : pm_V), z = ((if al = 1 then X0 i else 1000000 : Nat) : Int) → Lay (Mu [(143, pm_upd (pm_ct N 143) i0 z)] N) → Wp (d + 3) 236 75 [(2, ((116 : Nat) : Int)), (0, (rs : Int)), (0, (cs : Int)), (0, (K : Int)), (0, (al : Int)), (0, (nA T rs cs : Int)), (0, ((i + 1 : Nat) : Int)), v7, v8] [] (Mu [(143, pm_upd (pm_ct N 143) i0 z)] N) mc ms Q := by
        intro z v7 v8 hz lay'
        refine ih (i + 1) v7 v8 _ (by omega) lay' (hF.trans (Fr.mu _ _ rfl)) (fun J E' B' X' j1 j2 hJ => ?_) (fun h hh => by rw [Mu_ct]; exact gB h hh) (fun j hj => ?_)
        · have := hO J E' B' X' j1 j2 hJ
          refine ⟨fun b' hb' => by rw [Mu_ct]; exact this.1 b' hb', fun h hh => by rw [Mu_ct]; exact this.2.1 h hh, fun j hj => ?_⟩
          rw [Mu_ct]
          show pm_upd (pm_ct N 143) i0 _ _ = _
          rw [pm_upd_ne (by omega)]; exact this.2.2 j hj
        · rw [Mu_ct]
          show pm_upd (pm_ct N 143) i0 _ _ = _
          by_cases q : j = i
          · rw [q, ← hi0, pm_upd_eq, hz]
          · rw [pm_upd_ne (by omega)]; exact gX j (by omega)
      refine g_iload lk_236_75 rfl ?_
      refine g_bipush lk_236_77 ?_
      refine g_icmp (t := 113) lk_236_79 rfl (by first | (unfold pm_inI; omega) | exact pm_and_in _ _ | exact pm_shr_in _ _ | exact pm_or_in _ _ | exact pm_xor_in _ _ | exact pm_shl_in _ _ | exact pm_cmp_in _ _ | exact pm_b8_in _ | (unfold pm_inI; split <;> omega)) (by first | (unfold pm_inI; omega) | exact pm_and_in _ _ | exact pm_shr_in _ _ | exact pm_or_in _ _ | exact pm_xor_in _ _ | exact pm_shl_in _ _ | exact pm_cmp_in _ _ | exact pm_b8_in _ | (unfold pm_inI; split <;> omega)) (fun h1 => ?_) (fun h1 => ?_)
      · replace h1 : 12 ≤ (i : Int) := h1
        omega
      · replace h1 : ¬ (12 ≤ (i : Int)) := h1
        refine g_aload_n lk_236_82 rfl ?_
        refine g_getfield lk_236_83 rfl (lay.on (by decide) rfl) (v := ((143 : Nat) : Int)) (lay.rf rfl) ?_
        refine g_sipush lk_236_86 ?_
        refine g_iload lk_236_89 rfl ?_
        refine g_imul lk_236_91 ?_
        refine g_iload_n lk_236_92 rfl ?_
        refine g_iadd lk_236_93 ?_
        refine g_top (z := ((4096 * (i : Int)) + (K : Int))) (z' := (i0 : Int)) (t0) ?_
        refine g_iload lk_236_94 rfl ?_
        refine g_if (t := 103) lk_236_96 rfl (by first | (unfold pm_inI; omega) | exact pm_and_in _ _ | exact pm_shr_in _ _ | exact pm_or_in _ _ | exact pm_xor_in _ _ | exact pm_shl_in _ _ | exact pm_cmp_in _ _ | exact pm_b8_in _ | (unfold pm_inI; split <;> omega)) (fun h2 => ?_) (fun h2 => ?_)
        · replace h2 : (al : Int) = 0 := h2
          refine g_ldc_w lk_236_103 ?_
          have lay3 : Lay (Mu [(143, pm_upd (pm_ct N 143) i0 1000000)] N) := lay.muA (l := []) (a := 143) (f := pm_upd (pm_ct N 143) i0 1000000) rfl rfl
          refine m_iastore (u := []) (u' := [(143, pm_upd (pm_ct N 143) i0 1000000)]) (M := N) lk_236_106 (lay.ay (by decide) rfl) (by omega) (j := i0) (by omega) rfl ?_
          refine g_iinc (ls' := [(2, ((116 : Nat) : Int)), (0, (rs : Int)), (0, (cs : Int)), (0, (K : Int)), (0, (al : Int)), (0, (nA T rs cs : Int)), (0, ((i : Int) + 1)), v7, v8]) lk_236_107 rfl rfl rfl ?_
          refine g_goto (t := 75) lk_236_110 rfl ?_
          exact next _ _ _ (by rw [if_neg (by omega)]; omega) lay3
        · replace h2 : ¬ ((al : Int) = 0) := h2
          refine g_iconst lk_236_99 ?_
          refine g_goto (t := 106) lk_236_100 rfl ?_
          have lay4 : Lay (Mu [(143, pm_upd (pm_ct N 143) i0 0)] N) := lay.muA (l := []) (a := 143) (f := pm_upd (pm_ct N 143) i0 0) rfl rfl
          refine m_iastore (u := []) (u' := [(143, pm_upd (pm_ct N 143) i0 0)]) (M := N) lk_236_106 (lay.ay (by decide) rfl) (by omega) (j := i0) (by omega) rfl ?_
          refine g_iinc (ls' := [(2, ((116 : Nat) : Int)), (0, (rs : Int)), (0, (cs : Int)), (0, (K : Int)), (0, (al : Int)), (0, (nA T rs cs : Int)), (0, ((i : Int) + 1)), v7, v8]) lk_236_107 rfl rfl rfl ?_
          refine g_goto (t := 75) lk_236_110 rfl ?_
          exact next _ _ _ (by rw [if_pos (by omega), hX0]; rfl) lay4
  have inB : ∀ (m i : Nat) (v7 v8 : pm_V) (N : pm_M), i + m = 3 → Lay N → Fr [142, 143, 144] M N → Oth M N K → (∀ j, j < i → pm_ct N 142 (4096 * j + K) = ((if al = 1 then B0 j else 1000000 : Nat) : Int)) → Wp (d + 3) 236 25 [(2, ((116 : Nat) : Int)), (0, (rs : Int)), (0, (cs : Int)), (0, (K : Int)), (0, (al : Int)), (0, (nA T rs cs : Int)), (0, (i : Int)), v7, v8] [] N mc ms Q := by
    intro m
    induction m with
    | zero =>
      intro i v7 v8 N hi' lay hF hO gB
      refine g_iload lk_236_25 rfl ?_
      refine g_iconst lk_236_27 ?_
      refine g_icmp (t := 72) lk_236_28 rfl (by first | (unfold pm_inI; omega) | exact pm_and_in _ _ | exact pm_shr_in _ _ | exact pm_or_in _ _ | exact pm_xor_in _ _ | exact pm_shl_in _ _ | exact pm_cmp_in _ _ | exact pm_b8_in _ | (unfold pm_inI; split <;> omega)) (by first | (unfold pm_inI; omega) | exact pm_and_in _ _ | exact pm_shr_in _ _ | exact pm_or_in _ _ | exact pm_xor_in _ _ | exact pm_shl_in _ _ | exact pm_cmp_in _ _ | exact pm_b8_in _ | (unfold pm_inI; split <;> omega)) (fun h1 => ?_) (fun h1 => ?_)
      · replace h1 : 3 ≤ (i : Int) := h1
        refine g_iconst lk_236_72 ?_
        refine g_istore (ls' := [(2, ((116 : Nat) : Int)), (0, (rs : Int)), (0, (cs : Int)), (0, (K : Int)), (0, (al : Int)), (0, (nA T rs cs : Int)), (0, 0), v7, v8]) lk_236_73 rfl rfl ?_
        exact inX 12 0 _ _ N rfl lay hF hO (fun j hj => gB j (by omega)) (fun j hj => absurd hj (Nat.not_lt_zero j))
      · replace h1 : ¬ (3 ≤ (i : Int)) := h1
        omega
    | succ m ih =>
      intro i v7 v8 N hi' lay hF hO gB
      obtain ⟨i0, hi0⟩ : ∃ j, j = 4096 * i + K := ⟨_, rfl⟩
      have t0 : (4096 * (i : Int)) + (K : Int) = (i0 : Int) := by omega
      have next : ∀ (z : Int) (v7 v8 : pm_V), z = ((if al = 1 then B0 i else 1000000 : Nat) : Int) → Lay (Mu [(142, pm_upd (pm_ct N 142) i0 z)] N) → Wp (d + 3) 236 25 [(2, ((116 : Nat) : Int)), (0, (rs : Int)), (0, (cs : Int)), (0, (K : Int)), (0, (al : Int)), (0, (nA T rs cs : Int)), (0, ((i + 1 : Nat) : Int)), v7, v8] [] (Mu [(142, pm_upd (pm_ct N 142) i0 z)] N) mc ms Q := by
        intro z v7 v8 hz lay'
        refine ih (i + 1) v7 v8 _ (by omega) lay' (hF.trans (Fr.mu _ _ rfl)) (fun J E' B' X' j1 j2 hJ => ?_) (fun j hj => ?_)
        · have := hO J E' B' X' j1 j2 hJ
          refine ⟨fun b' hb' => by rw [Mu_ct]; exact this.1 b' hb', fun h hh => ?_, fun j hj => by rw [Mu_ct]; exact this.2.2 j hj⟩
          rw [Mu_ct]
          show pm_upd (pm_ct N 142) i0 _ _ = _
          rw [pm_upd_ne (by omega)]; exact this.2.1 h hh
        · rw [Mu_ct]
          show pm_upd (pm_ct N 142) i0 _ _ = _
          by_cases q : j = i
          · rw [q, ← hi0, pm_upd_eq, hz]
          · rw [pm_upd_ne (by omega)]; exact gB j (by omega)
      refine g_iload lk_236_25 rfl ?_
      refine g_iconst lk_236_27 ?_
      refine g_icmp (t := 72) lk_236_28 rfl (by first | (unfold pm_inI; omega) | exact pm_and_in _ _ | exact pm_shr_in _ _ | exact pm_or_in _ _ | exact pm_xor_in _ _ | exact pm_shl_in _ _ | exact pm_cmp_in _ _ | exact pm_b8_in _ | (unfold pm_inI; split <;> omega)) (by first | (unfold pm_inI; omega) | exact pm_and_in _ _ | exact pm_shr_in _ _ | exact pm_or_in _ _ | exact pm_xor_in _ _ | exact pm_shl_in _ _ | exact pm_cmp_in _ _ | exact pm_b8_in _ | (unfold pm_inI; split <;> omega)) (fun h1 => ?_) (fun h1 => ?_)
      · replace h1 : 3 ≤ (i : Int) := h1
        omega
      · replace h1 : ¬ (3 ≤ (i : Int)) := h1
        refine g_aload_n lk_236_31 rfl ?_
        refine g_getfield lk_236_32 rfl (lay.on (by decide) rfl) (v := ((142 : Nat) : Int)) (lay.rf rfl) ?_
        refine g_sipush lk_236_35 ?_
        refine g_iload lk_236_38 rfl ?_
        refine g_imul lk_236_40 ?_
        refine g_iload_n lk_236_41 rfl ?_
        refine g_iadd lk_236_42 ?_
        refine g_top (z := ((4096 * (i : Int)) + (K : Int))) (z' := (i0 : Int)) (t0) ?_
        refine g_iload lk_236_43 rfl ?_
        refine g_if (t := 54) lk_236_45 rfl (by first | (unfold pm_inI; omega) | exact pm_and_in _ _ | exact pm_shr_in _ _ | exact pm_or_in _ _ | exact pm_xor_in _ _ | exact pm_shl_in _ _ | exact pm_cmp_in _ _ | exact pm_b8_in _ | (unfold pm_inI; split <;> omega)) (fun h2 => ?_) (fun h2 => ?_)
        · replace h2 : ¬ (al : Int) = 0 := h2
          refine g_iload lk_236_54 rfl ?_
          refine g_iconst lk_236_56 ?_
          refine g_icmp (t := 64) lk_236_57 rfl (by first | (unfold pm_inI; omega) | exact pm_and_in _ _ | exact pm_shr_in _ _ | exact pm_or_in _ _ | exact pm_xor_in _ _ | exact pm_shl_in _ _ | exact pm_cmp_in _ _ | exact pm_b8_in _ | (unfold pm_inI; split <;> omega)) (by first | (unfold pm_inI; omega) | exact pm_and_in _ _ | exact pm_shr_in _ _ | exact pm_or_in _ _ | exact pm_xor_in _ _ | exact pm_shl_in _ _ | exact pm_cmp_in _ _ | exact pm_b8_in _ | (unfold pm_inI; split <;> omega)) (fun h3 => ?_) (fun h3 => ?_)
          · replace h3 : ¬ (i : Int) = 1 := h3
            refine g_iconst lk_236_64 ?_
            have lay4 : Lay (Mu [(142, pm_upd (pm_ct N 142) i0 0)] N) := lay.muA (l := []) (a := 142) (f := pm_upd (pm_ct N 142) i0 0) rfl rfl
            refine m_iastore (u := []) (u' := [(142, pm_upd (pm_ct N 142) i0 0)]) (M := N) lk_236_65 (lay.ay (by decide) rfl) (by omega) (j := i0) (by omega) rfl ?_
            refine g_iinc (ls' := [(2, ((116 : Nat) : Int)), (0, (rs : Int)), (0, (cs : Int)), (0, (K : Int)), (0, (al : Int)), (0, (nA T rs cs : Int)), (0, ((i : Int) + 1)), v7, v8]) lk_236_66 rfl rfl rfl ?_
            refine g_goto (t := 25) lk_236_69 rfl ?_
            exact next _ _ _ (by rw [if_pos (by omega), hB0]; show (0 : Int) = ((if i = 1 then 1 else 0 : Nat) : Int); rw [if_neg (by omega)]; rfl) lay4
          · replace h3 : ¬ (¬ (i : Int) = 1) := h3
            refine g_iconst lk_236_60 ?_
            refine g_goto (t := 65) lk_236_61 rfl ?_
            have lay5 : Lay (Mu [(142, pm_upd (pm_ct N 142) i0 1)] N) := lay.muA (l := []) (a := 142) (f := pm_upd (pm_ct N 142) i0 1) rfl rfl
            refine m_iastore (u := []) (u' := [(142, pm_upd (pm_ct N 142) i0 1)]) (M := N) lk_236_65 (lay.ay (by decide) rfl) (by omega) (j := i0) (by omega) rfl ?_
            refine g_iinc (ls' := [(2, ((116 : Nat) : Int)), (0, (rs : Int)), (0, (cs : Int)), (0, (K : Int)), (0, (al : Int)), (0, (nA T rs cs : Int)), (0, ((i : Int) + 1)), v7, v8]) lk_236_66 rfl rfl rfl ?_
            refine g_goto (t := 25) lk_236_69 rfl ?_
            exact next _ _ _ (by rw [if_pos (by omega), hB0]; show (1 : Int) = ((if i = 1 then 1 else 0 : Nat) : Int); rw [if_pos (by omega)]; rfl) lay5
        · replace h2 : ¬ (¬ (al : Int) = 0) := h2
          refine g_ldc_w lk_236_48 ?_
          refine g_goto (t := 65) lk_236_51 rfl ?_
          have lay6 : Lay (Mu [(142, pm_upd (pm_ct N 142) i0 1000000)] N) := lay.muA (l := []) (a := 142) (f := pm_upd (pm_ct N 142) i0 1000000) rfl rfl
          refine m_iastore (u := []) (u' := [(142, pm_upd (pm_ct N 142) i0 1000000)]) (M := N) lk_236_65 (lay.ay (by decide) rfl) (by omega) (j := i0) (by omega) rfl ?_
          refine g_iinc (ls' := [(2, ((116 : Nat) : Int)), (0, (rs : Int)), (0, (cs : Int)), (0, (K : Int)), (0, (al : Int)), (0, (nA T rs cs : Int)), (0, ((i : Int) + 1)), v7, v8]) lk_236_66 rfl rfl rfl ?_
          refine g_goto (t := 25) lk_236_69 rfl ?_
          exact next _ _ _ (by rw [if_neg (by omega)]; omega) lay6
  have hM := hM0
  have ao := fun (M : pm_M) => c_Mo_areaOf (d := d + 2) (mc := 0) (ms := 0) (M := M) (a := rs) (b := cs)
  rw [← hK] at ao
  have ia := c_Mo_isAlike (d := d) (mc := 0) (ms := 0) lay0 hT hM0 r64 c64
  have za : (if pop (vIn T rs cs) < 2 then (1 : Int) else 0) = (al : Int) := by rw [hal]; split <;> rfl
  rw [za] at ia
  show Wp (d + 3) 236 0 [(2, ((116 : Nat) : Int)), (0, (rs : Int)), (0, (cs : Int)), (9, 0), (9, 0), (9, 0), (9, 0), (9, 0), (9, 0)] [] M mc ms Q
  refine g_iload_n lk_236_0 rfl ?_
  refine g_iload_n lk_236_1 rfl ?_
  refine g_static (Qc := _) lk_236_2 (by decide) rfl (Nat.le_of_ble_eq_true rfl) rfl rfl (Nat.le_of_ble_eq_true rfl) (Nat.le_of_ble_eq_true rfl) (Nat.zero_le _) (Nat.zero_le _) (ao _) ?_
  rintro _ N1 ⟨rfl, hN1⟩
  rw [hN1]
  show Wp _ 236 5 [(2, ((116 : Nat) : Int)), (0, (rs : Int)), (0, (cs : Int)), (9, 0), (9, 0), (9, 0), (9, 0), (9, 0), (9, 0)] [(0, (K : Int))] M _ _ _
  refine g_istore_n (ls' := [(2, ((116 : Nat) : Int)), (0, (rs : Int)), (0, (cs : Int)), (0, (K : Int)), (9, 0), (9, 0), (9, 0), (9, 0), (9, 0)]) lk_236_5 rfl rfl ?_
  refine g_aload_n lk_236_6 rfl ?_
  refine g_iload_n lk_236_7 rfl ?_
  refine g_iload_n lk_236_8 rfl ?_
  refine g_virtual (p := 116) (Qc := _) lk_236_9 rfl (Nat.le_of_ble_eq_true rfl) rfl rfl (lay0.on (by decide) rfl) (Nat.le_of_ble_eq_true rfl) (Nat.le_of_ble_eq_true rfl) (Nat.zero_le _) (Nat.zero_le _) (ia) ?_
  rintro _ N2 ⟨rfl, hN2⟩
  rw [hN2]
  show Wp _ 236 12 [(2, ((116 : Nat) : Int)), (0, (rs : Int)), (0, (cs : Int)), (0, (K : Int)), (9, 0), (9, 0), (9, 0), (9, 0), (9, 0)] [(0, (al : Int))] M _ _ _
  refine g_istore (ls' := [(2, ((116 : Nat) : Int)), (0, (rs : Int)), (0, (cs : Int)), (0, (K : Int)), (0, (al : Int)), (9, 0), (9, 0), (9, 0), (9, 0)]) lk_236_12 rfl rfl ?_
  refine g_aload_n lk_236_14 rfl ?_
  refine g_iload_n lk_236_15 rfl ?_
  refine g_iload_n lk_236_16 rfl ?_
  refine g_virtual (p := 116) (Qc := _) lk_236_17 rfl (Nat.le_of_ble_eq_true rfl) rfl rfl (lay0.on (by decide) rfl) (Nat.le_of_ble_eq_true rfl) (Nat.le_of_ble_eq_true rfl) (Nat.zero_le _) (Nat.zero_le _) (c_Mo_askedA lay0 hT hM hi.2.1 hi.2.2.2) ?_
  rintro _ N3 ⟨rfl, hN3⟩
  rw [hN3]
  show Wp _ 236 20 [(2, ((116 : Nat) : Int)), (0, (rs : Int)), (0, (cs : Int)), (0, (K : Int)), (0, (al : Int)), (9, 0), (9, 0), (9, 0), (9, 0)] [(0, (nA T rs cs : Int))] M _ _ _
  refine g_istore (ls' := [(2, ((116 : Nat) : Int)), (0, (rs : Int)), (0, (cs : Int)), (0, (K : Int)), (0, (al : Int)), (0, (nA T rs cs : Int)), (9, 0), (9, 0), (9, 0)]) lk_236_20 rfl rfl ?_
  refine g_iconst lk_236_22 ?_
  refine g_istore (ls' := [(2, ((116 : Nat) : Int)), (0, (rs : Int)), (0, (cs : Int)), (0, (K : Int)), (0, (al : Int)), (0, (nA T rs cs : Int)), (0, 0), (9, 0), (9, 0)]) lk_236_23 rfl rfl ?_
  exact inB 3 0 _ _ M rfl lay0 (Fr.refl _ _) (fun J E' B' X' _ _ hJ => hJ) (fun j hj => absurd hj (Nat.not_lt_zero j))
