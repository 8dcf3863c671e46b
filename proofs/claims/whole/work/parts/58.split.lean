/-! ===== the best split of a set ===== -/
def cmb (b x y : Nat) : Nat := if b = 0 then max x y else x + y
/-- parts that have the lowest member -/
def spC (s q : Nat) : Bool := Sb q s && q.testBit (fstb s)
def spF (b : Nat) (g : Nat → Nat) (s q : Nat) : Nat := cmb b (g q) (g (s - q))
def spl (b : Nat) (g : Nat → Nat) (s : Nat) : Nat := mn (spC s) (spF b g s) s
theorem spC_tab : ∀ s : Fin 64, ∀ q : Fin 64, (s : Nat) ≠ 0 → (q : Nat) < (s : Nat) → spC (s : Nat) (q : Nat) = true → 1 ≤ (q : Nat) ∧ 1 ≤ (s : Nat) - (q : Nat) ∧ lw s ≤ (q : Nat) ∧ Sb ((q : Nat) - lw s) ((s : Nat) - lw s) = true ∧ pop (q : Nat) + pop ((s : Nat) - (q : Nat)) = pop (s : Nat) ∧ 1 ≤ pop (q : Nat) ∧ 1 ≤ pop ((s : Nat) - (q : Nat)) := by decide +kernel
theorem rest_tab : ∀ s : Fin 64, Sb ((s : Nat) - lw s) (s : Nat) = true := by decide +kernel
theorem spC_lw : ∀ s : Fin 64, (s : Nat) ≠ 0 → spC (s : Nat) (lw s) = true ∧ pop (lw s) = 1 := by decide +kernel
theorem spC_s {s q : Nat} (hs : s < 64) (h0 : s ≠ 0) (hq : q < s) (h : spC s q = true) : 1 ≤ q ∧ 1 ≤ s - q ∧ lw s ≤ q ∧ Sb (q - lw s) (s - lw s) = true ∧ pop q + pop (s - q) = pop s ∧ 1 ≤ pop q ∧ 1 ≤ pop (s - q) := spC_tab ⟨s, hs⟩ ⟨q, by omega⟩ h0 hq h
/-- the least part of those that are as good -/
def IsPk (b : Nat) (g : Nat → Nat) (s pk : Nat) : Prop := (∃ q, q < s ∧ spC s q = true ∧ spF b g s q ≤ 1000000) → pk < s ∧ spC s pk = true ∧ spF b g s pk = spl b g s ∧ ∀ q, q < pk → spC s q = true → spl b g s < spF b g s q
set_option maxHeartbeats 8000000 in
theorem c_Areas_split {d mc ms : Nat} {M : pm_M} (lay0 : Lay M) {w n : Nat} (hw : own w) (hay : pm_ay M w 100 n) {s : Nat} (hs : s < 64) (h0 : s ≠ 0) {sh fx : Nat} {ix g : Nat → Nat} (hix : ∀ q, Sb q s = true → pm_or (pm_shl (q : Int) (sh : Int)) (fx : Int) = (ix q : Int) ∧ ix q < n) (hg : ∀ q, Sb q s = true → 1 ≤ q → q < s → pm_ct M w (ix q) = (g q : Int) ∧ g q ≤ 1000400) {b : Nat} (hb : b ≤ 1) :
    pm_E (d + 1) 9 [(2, ((44 : Nat) : Int)), (2, ((w : Nat) : Int)), (0, (s : Int)), (0, (sh : Int)), (0, (fx : Int)), (0, (b : Int))] M mc ms (fun ρ M' => ρ = some (0, (spl b g s : Int)) ∧ Lay M' ∧ ∃ pk : Nat, Fr [44] M M' ∧ (∀ k, k ≠ 3 → pm_ct M' 44 k = pm_ct M 44 k) ∧ pm_ct M' 44 3 = (pk : Int) ∧ IsPk b g s pk) := by
  obtain ⟨Q, hQ⟩ : ∃ Q : pm_Q, Q = (fun ρ M' => ρ = some (0, (spl b g s : Int)) ∧ Lay M' ∧ ∃ pk : Nat, Fr [44] M M' ∧ (∀ k, k ≠ 3 → pm_ct M' 44 k = pm_ct M 44 k) ∧ pm_ct M' 44 3 = (pk : Int) ∧ IsPk b g s pk) := ⟨_, rfl⟩
  rw [← hQ]
  obtain ⟨q0, q5, q1, q2, -⟩ := lw_tab ⟨s, hs⟩ h0
  replace q0 : pm_and (s : Int) (-(s : Int)) = ((lw s : Nat) : Int) := q0
  replace q5 : pm_xor (s : Int) ((lw s : Nat) : Int) = ((s - lw s : Nat) : Int) := q5
  replace q1 : 1 ≤ lw s := q1
  replace q2 : lw s ≤ s := q2
  have w44 : w ∉ [44] := fun q => own_ne hw (a := 44) rfl (List.mem_singleton.mp q).symm
  obtain ⟨lo, hlo⟩ : ∃ lo, lo = lw s := ⟨_, rfl⟩
  obtain ⟨r, hr⟩ : ∃ r, r = s - lw s := ⟨_, rfl⟩
  rw [← hlo] at q0 q1 q2
  rw [← hr, ← hlo] at q5
  have loop : ∀ (part least pk : Nat) (v10 v11 v12 : pm_V) (N : pm_M), Sb part r = true → Lay N → Fr [44] M N → (∀ k, k ≠ 3 → pm_ct N 44 k = pm_ct M 44 k) → pm_ct N 44 3 = (pk : Int) → least ≤ 1000000 →
      (least = 1000000 ∧ (∀ q, Sb q r = true → part ≤ q → q < r → 1000000 < spF b g s (lo + q)) ∨ ∃ p', Sb p' r = true ∧ part ≤ p' ∧ p' < r ∧ pk = lo + p' ∧ spF b g s (lo + p') = least ∧ (∀ q, Sb q r = true → part ≤ q → q < p' → least < spF b g s (lo + q)) ∧ ∀ q, Sb q r = true → part ≤ q → q < r → least ≤ spF b g s (lo + q)) →
      Wp (d + 1) 9 25 [(2, ((44 : Nat) : Int)), (2, ((w : Nat) : Int)), (0, (s : Int)), (0, (sh : Int)), (0, (fx : Int)), (0, (b : Int)), (0, (lo : Int)), (0, (r : Int)), (0, (least : Int)), (0, (part : Int)), v10, v11, v12] [] N mc ms Q := by
    intro part
    induction part using Nat.strongRecOn with
    | ind part ih =>
      intro least pk v10 v11 v12 N hb2 lay hF h44 h3 j1 j2
      have hle := Sb_le hb2
      obtain ⟨nx, hnx⟩ : ∃ nx, nx = ((part - 1) &&& r) := ⟨_, rfl⟩
      by_cases hp0 : part = 0
      · subst hp0
        refine g_iload lk_9_25 rfl ?_
        refine g_if (t := 112) lk_9_27 rfl (by first | (unfold pm_inI; omega) | exact pm_and_in _ _ | exact pm_shr_in _ _ | exact pm_or_in _ _ | exact pm_xor_in _ _ | exact pm_shl_in _ _ | exact pm_cmp_in _ _ | exact pm_b8_in _ | (unfold pm_inI; split <;> omega)) (fun _ => ?_) (fun h => absurd (show (0 : Int) ≤ (0 : Int) by omega) h)
        refine g_iload lk_9_112 rfl ?_
        refine g_ireturn lk_9_114 (fun h => absurd h (by decide)) ?_
        have nq : ∀ q, q < s → spC s q = true → Sb (q - lo) r = true ∧ q - lo < r ∧ lo + (q - lo) = q := fun q a1 a2 => by
          obtain ⟨c1, c2, c3, c4, -⟩ := spC_s hs h0 a1 a2
          rw [← hlo] at c3
          rw [← hlo] at c4
          refine ⟨by rw [hr, ← hlo]; exact c4, by omega, by omega⟩
        have back : ∀ q, Sb q r = true → q < r → spC s (lo + q) = true ∧ lo + q < s := fun q a1 a2 => by
          obtain ⟨-, -, c3, -, c5⟩ := sub_tab ⟨s, hs⟩ ⟨q, by omega⟩ h0 (by show Sb q (s - lw s) = true; rw [← hr]; exact a1)
          refine ⟨?_, by omega⟩
          unfold spC
          rw [Bool.and_eq_true, hlo]
          exact ⟨c3, c5⟩
        have el : least = spl b g s := by
          refine mn_uniq j1 (fun q a1 a2 => ?_) ?_
          · obtain ⟨c1, c2, c3⟩ := nq q a1 a2
            rcases j2 with ⟨e1, e2⟩ | ⟨p', e1, e2, e3, e4, e5, e6, e7⟩
            · have := e2 _ c1 (Nat.zero_le _) c2
              rw [c3] at this; omega
            · have := e7 _ c1 (Nat.zero_le _) c2
              rw [c3] at this; exact this
          · rcases j2 with ⟨e1, e2⟩ | ⟨p', e1, e2, e3, e4, e5, e6, e7⟩
            · exact Or.inl e1
            · exact Or.inr ⟨lo + p', (back p' e1 e3).2, (back p' e1 e3).1, e5.symm⟩
        rw [hQ]
        refine ⟨by rw [el], lay, pk, hF, h44, h3, ?_⟩
        rintro ⟨q, a1, a2, a3⟩
        obtain ⟨c1, c2, c3⟩ := nq q a1 a2
        rcases j2 with ⟨e1, e2⟩ | ⟨p', e1, e2, e3, e4, e5, e6, e7⟩
        · have := e2 _ c1 (Nat.zero_le _) c2
          rw [c3] at this; omega
        · rw [e4, ← el]
          refine ⟨(back p' e1 e3).2, (back p' e1 e3).1, e5, fun q' d1 d2 => ?_⟩
          obtain ⟨f1, f2, f3⟩ := nq q' (by have := (back p' e1 e3).2; omega) d2
          have := e6 _ f1 (Nat.zero_le _) (by omega)
          rw [f3] at this; exact this
      · have k1 : pm_and ((part : Int) - 1) (r : Int) = (nx : Int) := by
          rw [show (part : Int) - 1 = ((part - 1 : Nat) : Int) by omega, pm_and_n (by omega) (by omega), hnx]
        have k2 : Sb nx r = true := by rw [hnx]; exact Sb_and _ _
        have k3 : nx < part := by rw [hnx]; exact sub_dec (by omega)
        obtain ⟨k5, k6, k7, k8, -⟩ := sub_tab ⟨s, hs⟩ ⟨nx, by omega⟩ h0 (by show Sb nx (s - lw s) = true; rw [← hr]; exact k2)
        replace k5 : pm_or (lo : Int) (nx : Int) = ((lo + nx : Nat) : Int) := by rw [hlo]; exact k5
        replace k6 : pm_xor (r : Int) (nx : Int) = ((r - nx : Nat) : Int) := by rw [hr]; exact k6
        replace k7 : Sb (lo + nx) s = true := by rw [hlo]; exact k7
        replace k8 : Sb (r - nx) s = true := Sb_trans (q := r) (by rw [hr]; exact k8) (by rw [hr]; exact rest_tab ⟨s, hs⟩)
        obtain ⟨wn, hwn⟩ : ∃ wn, wn = lo + nx := ⟨_, rfl⟩
        obtain ⟨rn, hrn⟩ : ∃ rn, rn = r - nx := ⟨_, rfl⟩
        rw [← hwn] at k5 k7
        rw [← hrn] at k6 k8
        obtain ⟨i1, hi1⟩ : ∃ i, i = ix wn := ⟨_, rfl⟩
        obtain ⟨i2, hi2⟩ : ∃ i, i = ix rn := ⟨_, rfl⟩
        obtain ⟨x1, hx1⟩ : ∃ x, x = g wn := ⟨_, rfl⟩
        obtain ⟨x2, hx2⟩ : ∃ x, x = g rn := ⟨_, rfl⟩
        have a1 : pm_or (pm_shl (wn : Int) (sh : Int)) (fx : Int) = (i1 : Int) := by rw [hi1]; exact (hix wn k7).1
        have a2 : pm_or (pm_shl (rn : Int) (sh : Int)) (fx : Int) = (i2 : Int) := by rw [hi2]; exact (hix rn k8).1
        have l1 : i1 < n := by rw [hi1]; exact (hix wn k7).2
        have l2 : i2 < n := by rw [hi2]; exact (hix rn k8).2
        have g1 := hg wn k7 (by omega) (by omega)
        have g2 := hg rn k8 (by omega) (by omega)
        rw [← hi1, ← hx1] at g1
        rw [← hi2, ← hx2] at g2
        have m1 : pm_ct N w i1 = (x1 : Int) := by rw [hF.ct w44]; exact g1.1
        have m2 : pm_ct N w i2 = (x2 : Int) := by rw [hF.ct w44]; exact g2.1
        have g1 := g1.2
        have g2 := g2.2
        have eF : spF b g s (lo + nx) = cmb b x1 x2 := by
          have e9 : s - wn = rn := by clear j2; omega
          unfold spF
          rw [← hwn, ← hx1, e9, ← hx2]
        have near : ∀ q, Sb q r = true → nx ≤ q → q ≠ nx → part ≤ q := fun q c1 c2 c3 => by
          refine Nat.le_of_not_lt (fun c => ?_)
          have := sub_next part q r hb2 c1 c
          rw [← hnx] at this
          omega
        -- taken
        have take : ∀ (z : Int) (v10 v11 v12 : pm_V) (N' : pm_M), z = (cmb b x1 x2 : Int) → cmb b x1 x2 ≤ least → Lay N' → N' = Mu [(44, pm_upd (pm_ct N 44) 3 (pm_or (lo : Int) (nx : Int)))] N → Wp (d + 1) 9 25 [(2, ((44 : Nat) : Int)), (2, ((w : Nat) : Int)), (0, (s : Int)), (0, (sh : Int)), (0, (fx : Int)), (0, (b : Int)), (0, (lo : Int)), (0, (r : Int)), (0, z), (0, (nx : Int)), v10, v11, v12] [] N' mc ms Q := by
          intro z v10 v11 v12 N' hz hle2 lay' hN'
          rw [hz]
          have f2 : Fr [44] N N' := by rw [hN']; exact Fr.mu _ _ rfl
          have c2 : pm_ct N' 44 = pm_upd (pm_ct N 44) 3 (pm_or (lo : Int) (nx : Int)) := by rw [hN', Mu_ct]; rfl
          refine ih nx k3 (cmb b x1 x2) (lo + nx) v10 v11 v12 N' k2 lay' (hF.trans f2) (fun k hk => by rw [c2, pm_upd_ne hk]; exact h44 k hk) (by rw [c2, pm_upd_eq, k5, hwn]) (by omega) (Or.inr ⟨nx, k2, Nat.le_refl _, by omega, rfl, eF, fun q _ c3 c4 => by omega, fun q c3 c4 c5 => ?_⟩)
          by_cases e : q = nx
          · rw [e, eF]; exact Nat.le_refl _
          · have := near q c3 c4 e
            rcases j2 with ⟨e1, e2⟩ | ⟨p', e1, e2, e3, e4, e5, e6, e7⟩
            · have := e2 q c3 this c5; omega
            · have := e7 q c3 this c5; omega
        -- passed over
        have pass : ∀ (v10 v11 v12 : pm_V), least < cmb b x1 x2 → Wp (d + 1) 9 25 [(2, ((44 : Nat) : Int)), (2, ((w : Nat) : Int)), (0, (s : Int)), (0, (sh : Int)), (0, (fx : Int)), (0, (b : Int)), (0, (lo : Int)), (0, (r : Int)), (0, (least : Int)), (0, (nx : Int)), v10, v11, v12] [] N mc ms Q := by
          intro v10 v11 v12 hgt
          refine ih nx k3 least pk v10 v11 v12 N k2 lay hF h44 h3 j1 ?_
          rcases j2 with ⟨e1, e2⟩ | ⟨p', e1, e2, e3, e4, e5, e6, e7⟩
          · refine Or.inl ⟨e1, fun q c3 c4 c5 => ?_⟩
            by_cases e : q = nx
            · rw [e, eF]; omega
            · exact e2 q c3 (near q c3 c4 e) c5
          · refine Or.inr ⟨p', e1, by omega, e3, e4, e5, fun q c3 c4 c5 => ?_, fun q c3 c4 c5 => ?_⟩
            · by_cases e : q = nx
              · rw [e, eF]; exact hgt
              · exact e6 q c3 (near q c3 c4 e) c5
            · by_cases e : q = nx
              · rw [e, eF]; omega
              · exact e7 q c3 (near q c3 c4 e) c5
        refine g_iload lk_9_25 rfl ?_
        refine g_if (t := 112) lk_9_27 rfl (by first | (unfold pm_inI; omega) | exact pm_and_in _ _ | exact pm_shr_in _ _ | exact pm_or_in _ _ | exact pm_xor_in _ _ | exact pm_shl_in _ _ | exact pm_cmp_in _ _ | exact pm_b8_in _ | (unfold pm_inI; split <;> omega)) (fun h1 => ?_) (fun h1 => ?_)
        · replace h1 : (part : Int) ≤ 0 := h1
          refine g_iload lk_9_112 rfl ?_
          refine g_ireturn lk_9_114 (fun h => absurd h (by decide)) ?_
          omega
        · replace h1 : ¬ ((part : Int) ≤ 0) := h1
          refine g_iload lk_9_30 rfl ?_
          refine g_iconst lk_9_32 ?_
          refine g_isub lk_9_33 ?_
          refine g_iload lk_9_34 rfl ?_
          refine g_iand lk_9_36 ?_
          refine g_top (z := (pm_and ((part : Int) - 1) (r : Int))) (z' := (nx : Int)) (k1) ?_
          refine g_istore (ls' := [(2, ((44 : Nat) : Int)), (2, ((w : Nat) : Int)), (0, (s : Int)), (0, (sh : Int)), (0, (fx : Int)), (0, (b : Int)), (0, (lo : Int)), (0, (r : Int)), (0, (least : Int)), (0, (nx : Int)), v10, v11, v12]) lk_9_37 rfl rfl ?_
          refine g_aload_n lk_9_39 rfl ?_
          refine g_iload lk_9_40 rfl ?_
          refine g_iload lk_9_42 rfl ?_
          refine g_ior lk_9_44 ?_
          refine g_top (z := (pm_or (lo : Int) (nx : Int))) (z' := (wn : Int)) (k5) ?_
          refine g_iload_n lk_9_45 rfl ?_
          refine g_ishl lk_9_46 ?_
          refine g_iload lk_9_47 rfl ?_
          refine g_ior lk_9_49 ?_
          refine g_top (z := (pm_or (pm_shl (wn : Int) (sh : Int)) (fx : Int))) (z' := (i1 : Int)) (a1) ?_
          refine g_iaload lk_9_50 (hF.ay hay) (by omega) (v := (x1 : Int)) m1 ?_
          refine g_istore (ls' := [(2, ((44 : Nat) : Int)), (2, ((w : Nat) : Int)), (0, (s : Int)), (0, (sh : Int)), (0, (fx : Int)), (0, (b : Int)), (0, (lo : Int)), (0, (r : Int)), (0, (least : Int)), (0, (nx : Int)), (0, (x1 : Int)), v11, v12]) lk_9_51 rfl rfl ?_
          refine g_aload_n lk_9_53 rfl ?_
          refine g_iload lk_9_54 rfl ?_
          refine g_iload lk_9_56 rfl ?_
          refine g_ixor lk_9_58 ?_
          refine g_top (z := (pm_xor (r : Int) (nx : Int))) (z' := (rn : Int)) (k6) ?_
          refine g_iload_n lk_9_59 rfl ?_
          refine g_ishl lk_9_60 ?_
          refine g_iload lk_9_61 rfl ?_
          refine g_ior lk_9_63 ?_
          refine g_top (z := (pm_or (pm_shl (rn : Int) (sh : Int)) (fx : Int))) (z' := (i2 : Int)) (a2) ?_
          refine g_iaload lk_9_64 (hF.ay hay) (by omega) (v := (x2 : Int)) m2 ?_
          refine g_istore (ls' := [(2, ((44 : Nat) : Int)), (2, ((w : Nat) : Int)), (0, (s : Int)), (0, (sh : Int)), (0, (fx : Int)), (0, (b : Int)), (0, (lo : Int)), (0, (r : Int)), (0, (least : Int)), (0, (nx : Int)), (0, (x1 : Int)), (0, (x2 : Int)), v12]) lk_9_65 rfl rfl ?_
          refine g_iload lk_9_67 rfl ?_
          refine g_if (t := 80) lk_9_69 rfl (by first | (unfold pm_inI; omega) | exact pm_and_in _ _ | exact pm_shr_in _ _ | exact pm_or_in _ _ | exact pm_xor_in _ _ | exact pm_shl_in _ _ | exact pm_cmp_in _ _ | exact pm_b8_in _ | (unfold pm_inI; split <;> omega)) (fun h2 => ?_) (fun h2 => ?_)
          · replace h2 : (b : Int) = 0 := h2
            refine g_iload lk_9_80 rfl ?_
            refine g_iload lk_9_82 rfl ?_
            refine g_mmax lk_9_84 (by first | (unfold pm_inI; omega) | exact pm_and_in _ _ | exact pm_shr_in _ _ | exact pm_or_in _ _ | exact pm_xor_in _ _ | exact pm_shl_in _ _ | exact pm_cmp_in _ _ | exact pm_b8_in _ | (unfold pm_inI; split <;> omega)) (by first | (unfold pm_inI; omega) | exact pm_and_in _ _ | exact pm_shr_in _ _ | exact pm_or_in _ _ | exact pm_xor_in _ _ | exact pm_shl_in _ _ | exact pm_cmp_in _ _ | exact pm_b8_in _ | (unfold pm_inI; split <;> omega)) (Nat.le_of_ble_eq_true rfl) ?_
            refine g_istore (ls' := [(2, ((44 : Nat) : Int)), (2, ((w : Nat) : Int)), (0, (s : Int)), (0, (sh : Int)), (0, (fx : Int)), (0, (b : Int)), (0, (lo : Int)), (0, (r : Int)), (0, (least : Int)), (0, (nx : Int)), (0, (x1 : Int)), (0, (x2 : Int)), (0, (max (x1 : Int) (x2 : Int)))]) lk_9_87 rfl rfl ?_
            refine g_iload lk_9_89 rfl ?_
            refine g_iload lk_9_91 rfl ?_
            refine g_icmp (t := 109) lk_9_93 rfl (by first | (unfold pm_inI; omega) | exact pm_and_in _ _ | exact pm_shr_in _ _ | exact pm_or_in _ _ | exact pm_xor_in _ _ | exact pm_shl_in _ _ | exact pm_cmp_in _ _ | exact pm_b8_in _ | (unfold pm_inI; split <;> omega)) (by first | (unfold pm_inI; omega) | exact pm_and_in _ _ | exact pm_shr_in _ _ | exact pm_or_in _ _ | exact pm_xor_in _ _ | exact pm_shl_in _ _ | exact pm_cmp_in _ _ | exact pm_b8_in _ | (unfold pm_inI; split <;> omega)) (fun h3 => ?_) (fun h3 => ?_)
            · replace h3 : (least : Int) < (max (x1 : Int) (x2 : Int)) := h3
              refine g_goto (t := 25) lk_9_109 rfl ?_
              have e0 : b = 0 := by omega
              refine pass _ _ _ ?_
              unfold cmb; rw [if_pos e0]; omega
            · replace h3 : ¬ ((least : Int) < (max (x1 : Int) (x2 : Int))) := h3
              refine g_iload lk_9_96 rfl ?_
              refine g_istore (ls' := [(2, ((44 : Nat) : Int)), (2, ((w : Nat) : Int)), (0, (s : Int)), (0, (sh : Int)), (0, (fx : Int)), (0, (b : Int)), (0, (lo : Int)), (0, (r : Int)), (0, (max (x1 : Int) (x2 : Int))), (0, (nx : Int)), (0, (x1 : Int)), (0, (x2 : Int)), (0, (max (x1 : Int) (x2 : Int)))]) lk_9_98 rfl rfl ?_
              refine g_aload_n lk_9_100 rfl ?_
              refine g_iload lk_9_101 rfl ?_
              refine g_iload lk_9_103 rfl ?_
              refine g_ior lk_9_105 ?_
              have lay4 : Lay (Mu [(44, pm_upd (pm_ct N 44) 3 (pm_or (lo : Int) (nx : Int)))] N) := lay.muF (l := []) (a := 44) (k := 3) (z := (pm_or (lo : Int) (nx : Int))) rfl rfl
              refine m_putfield (u := []) (u' := [(44, pm_upd (pm_ct N 44) 3 (pm_or (lo : Int) (nx : Int)))]) (M := N) lk_9_106 rfl (lay.on (by decide) rfl) (fun h => absurd h (by decide)) rfl ?_
              refine g_goto (t := 25) lk_9_109 rfl ?_
              have e0 : b = 0 := by omega
              refine take _ _ _ _ _ (by unfold cmb; rw [if_pos e0]; omega) (by unfold cmb; rw [if_pos e0]; omega) lay4 rfl
          · replace h2 : ¬ ((b : Int) = 0) := h2
            refine g_iload lk_9_72 rfl ?_
            refine g_iload lk_9_74 rfl ?_
            refine g_iadd lk_9_76 ?_
            refine g_goto (t := 87) lk_9_77 rfl ?_
            refine g_istore (ls' := [(2, ((44 : Nat) : Int)), (2, ((w : Nat) : Int)), (0, (s : Int)), (0, (sh : Int)), (0, (fx : Int)), (0, (b : Int)), (0, (lo : Int)), (0, (r : Int)), (0, (least : Int)), (0, (nx : Int)), (0, (x1 : Int)), (0, (x2 : Int)), (0, ((x1 : Int) + (x2 : Int)))]) lk_9_87 rfl rfl ?_
            refine g_iload lk_9_89 rfl ?_
            refine g_iload lk_9_91 rfl ?_
            refine g_icmp (t := 109) lk_9_93 rfl (by first | (unfold pm_inI; omega) | exact pm_and_in _ _ | exact pm_shr_in _ _ | exact pm_or_in _ _ | exact pm_xor_in _ _ | exact pm_shl_in _ _ | exact pm_cmp_in _ _ | exact pm_b8_in _ | (unfold pm_inI; split <;> omega)) (by first | (unfold pm_inI; omega) | exact pm_and_in _ _ | exact pm_shr_in _ _ | exact pm_or_in _ _ | exact pm_xor_in _ _ | exact pm_shl_in _ _ | exact pm_cmp_in _ _ | exact pm_b8_in _ | (unfold pm_inI; split <;> omega)) (fun h5 => ?_) (fun h5 => ?_)
            · replace h5 : (least : Int) < ((x1 : Int) + (x2 : Int)) := h5
              refine g_goto (t := 25) lk_9_109 rfl ?_
              have e0 : ¬ b = 0 := by omega
              refine pass _ _ _ ?_
              unfold cmb; rw [if_neg e0]; omega
            · replace h5 : ¬ ((least : Int) < ((x1 : Int) + (x2 : Int))) := h5
              refine g_iload lk_9_96 rfl ?_
              refine g_istore (ls' := [(2, ((44 : Nat) : Int)), (2, ((w : Nat) : Int)), (0, (s : Int)), (0, (sh : Int)), (0, (fx : Int)), (0, (b : Int)), (0, (lo : Int)), (0, (r : Int)), (0, ((x1 : Int) + (x2 : Int))), (0, (nx : Int)), (0, (x1 : Int)), (0, (x2 : Int)), (0, ((x1 : Int) + (x2 : Int)))]) lk_9_98 rfl rfl ?_
              refine g_aload_n lk_9_100 rfl ?_
              refine g_iload lk_9_101 rfl ?_
              refine g_iload lk_9_103 rfl ?_
              refine g_ior lk_9_105 ?_
              have lay6 : Lay (Mu [(44, pm_upd (pm_ct N 44) 3 (pm_or (lo : Int) (nx : Int)))] N) := lay.muF (l := []) (a := 44) (k := 3) (z := (pm_or (lo : Int) (nx : Int))) rfl rfl
              refine m_putfield (u := []) (u' := [(44, pm_upd (pm_ct N 44) 3 (pm_or (lo : Int) (nx : Int)))]) (M := N) lk_9_106 rfl (lay.on (by decide) rfl) (fun h => absurd h (by decide)) rfl ?_
              refine g_goto (t := 25) lk_9_109 rfl ?_
              have e0 : ¬ b = 0 := by omega
              refine take _ _ _ _ _ (by unfold cmb; rw [if_neg e0]; omega) (by unfold cmb; rw [if_neg e0]; omega) lay6 rfl
  have rr : Sb r r = true := Sb_refl r
  show Wp (d + 1) 9 0 [(2, ((44 : Nat) : Int)), (2, ((w : Nat) : Int)), (0, (s : Int)), (0, (sh : Int)), (0, (fx : Int)), (0, (b : Int)), (9, 0), (9, 0), (9, 0), (9, 0), (9, 0), (9, 0), (9, 0)] [] M mc ms Q
  refine g_iload_n lk_9_0 rfl ?_
  refine g_iload_n lk_9_1 rfl ?_
  refine g_ineg lk_9_2 ?_
  refine g_iand lk_9_3 ?_
  refine g_top (z := (pm_and (s : Int) (-(s : Int)))) (z' := (lo : Int)) (q0) ?_
  refine g_istore (ls' := [(2, ((44 : Nat) : Int)), (2, ((w : Nat) : Int)), (0, (s : Int)), (0, (sh : Int)), (0, (fx : Int)), (0, (b : Int)), (0, (lo : Int)), (9, 0), (9, 0), (9, 0), (9, 0), (9, 0), (9, 0)]) lk_9_4 rfl rfl ?_
  refine g_iload_n lk_9_6 rfl ?_
  refine g_iload lk_9_7 rfl ?_
  refine g_ixor lk_9_9 ?_
  refine g_top (z := (pm_xor (s : Int) (lo : Int))) (z' := (r : Int)) (q5) ?_
  refine g_istore (ls' := [(2, ((44 : Nat) : Int)), (2, ((w : Nat) : Int)), (0, (s : Int)), (0, (sh : Int)), (0, (fx : Int)), (0, (b : Int)), (0, (lo : Int)), (0, (r : Int)), (9, 0), (9, 0), (9, 0), (9, 0), (9, 0)]) lk_9_10 rfl rfl ?_
  refine g_ldc lk_9_12 ?_
  refine g_istore (ls' := [(2, ((44 : Nat) : Int)), (2, ((w : Nat) : Int)), (0, (s : Int)), (0, (sh : Int)), (0, (fx : Int)), (0, (b : Int)), (0, (lo : Int)), (0, (r : Int)), (0, 1000000), (9, 0), (9, 0), (9, 0), (9, 0)]) lk_9_14 rfl rfl ?_
  refine g_aload_n lk_9_16 rfl ?_
  refine g_iconst lk_9_17 ?_
  have lay1 : Lay (Mu [(44, pm_upd (pm_ct M 44) 3 0)] M) := lay0.muF (l := []) (a := 44) (k := 3) (z := 0) rfl rfl
  refine m_putfield (u := []) (u' := [(44, pm_upd (pm_ct M 44) 3 0)]) (M := M) lk_9_18 rfl (lay0.on (by decide) rfl) (fun h => absurd h (by decide)) rfl ?_
  refine g_iload lk_9_21 rfl ?_
  refine g_istore (ls' := [(2, ((44 : Nat) : Int)), (2, ((w : Nat) : Int)), (0, (s : Int)), (0, (sh : Int)), (0, (fx : Int)), (0, (b : Int)), (0, (lo : Int)), (0, (r : Int)), (0, 1000000), (0, (r : Int)), (9, 0), (9, 0), (9, 0)]) lk_9_23 rfl rfl ?_
  refine loop r 1000000 0 _ _ _ _ rr lay1 (Fr.mu _ _ rfl) (fun k hk => by rw [Mu_ct]; exact upd_ne hk) (by rw [Mu_ct]; rfl) (Nat.le_refl _) (Or.inl ⟨rfl, fun q _ a1 a2 => by omega⟩)
