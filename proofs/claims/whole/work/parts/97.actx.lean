/-! ===== acts: the class ===== -/
/-- all that was worked out and is kept: areas, best trees and such trees told, turns, wrong ones -/
def Chs (M : pm_M) (T : Tab) : Prop := ∃ s fa w0 f0 g0 w1 f1 g1 w2 f2 g2 ga gb r ch cn r2, CA M T s fa ∧ (CB M T 0 98 w0 f0 ∧ CN M T 0 98 g0) ∧ (CB M T 1 104 w1 f1 ∧ CN M T 1 104 g1) ∧ (CB M T 2 110 w2 f2 ∧ CN M T 2 110 g2) ∧ CT M T ga gb r ch ∧ CS M T cn r2 ∧ (f0 = 1 → fa = 1) ∧ (f1 = 1 → fa = 1) ∧ (f2 = 1 → fa = 1) ∧ (g0 = 1 → f0 = 1) ∧ (g1 = 1 → f1 = 1) ∧ (g2 = 1 → f2 = 1) ∧ (1 ≤ r → fa = 1) ∧ (1 ≤ r2 → fa = 1) ∧ Dy M [s, w0, w1, w2, ga, gb, cn]
theorem Fr.dy {S : List Nat} {M N : pm_M} {l : List Nat} (h : Dy M l) (k : Fr S M N) : Dy N l := ⟨h.1, fun a ha => ⟨(h.2 a ha).1, by rw [k.1]; exact (h.2 a ha).2⟩⟩
/-- what a change of the table leaves: nothing is known -/
theorem Chs.forget {M N : pm_M} {T T' : Tab} (h : Chs M T) (k : Fr [44, 47, 51, 98, 104, 110] M N) (a1 : pm_ct N 44 = pm_upd (pm_ct M 44) 2 0) (a2 : pm_ct N 47 = pm_upd (pm_ct M 47) 5 0) (a3 : pm_ct N 51 = pm_upd (pm_ct M 51) 4 0) (a4 : pm_ct N 98 = pm_upd (pm_upd (pm_ct M 98) 5 0) 6 0) (a5 : pm_ct N 104 = pm_upd (pm_upd (pm_ct M 104) 5 0) 6 0) (a6 : pm_ct N 110 = pm_upd (pm_upd (pm_ct M 110) 5 0) 6 0) : Chs N T' := by
  obtain ⟨s, fa, w0, f0, g0, w1, f1, g1, w2, f2, g2, ga, gb, r, ch, cn, r2, hA, ⟨hB0, _⟩, ⟨hB1, _⟩, ⟨hB2, _⟩, hT, hS, _, _, _, _, _, _, _, _, dy⟩ := h
  have n01 : (0 : Nat) = 1 → False := fun e => by omega
  refine ⟨s, 0, w0, 0, 0, w1, 0, 0, w2, 0, 0, ga, gb, 0, ch, cn, 0, ?_, ⟨?_, ?_⟩, ⟨?_, ?_⟩, ⟨?_, ?_⟩, ?_, ?_, fun e => e, fun e => e, fun e => e, fun e => e, fun e => e, fun e => e, fun e => by omega, fun e => by omega, k.dy dy⟩
  · obtain ⟨b1, b2, _, _, n, n1, n2, _⟩ := hA
    exact ⟨b1, by rw [a1]; exact b2, by rw [a1]; rfl, by omega, n, n1, k.ay n2, fun e => (n01 e).elim⟩
  · obtain ⟨b1, b2, _, b4, _, n, n1, n2, _⟩ := hB0
    exact ⟨b1, by rw [a4]; exact b2, by rw [a4]; rfl, by rw [a4]; exact b4, by omega, n, n1, k.ay n2, fun e => (n01 e).elim⟩
  · exact ⟨by rw [a4]; rfl, by omega, fun e => (n01 e).elim⟩
  · obtain ⟨b1, b2, _, b4, _, n, n1, n2, _⟩ := hB1
    exact ⟨b1, by rw [a5]; exact b2, by rw [a5]; rfl, by rw [a5]; exact b4, by omega, n, n1, k.ay n2, fun e => (n01 e).elim⟩
  · exact ⟨by rw [a5]; rfl, by omega, fun e => (n01 e).elim⟩
  · obtain ⟨b1, b2, _, b4, _, n, n1, n2, _⟩ := hB2
    exact ⟨b1, by rw [a6]; exact b2, by rw [a6]; rfl, by rw [a6]; exact b4, by omega, n, n1, k.ay n2, fun e => (n01 e).elim⟩
  · exact ⟨by rw [a6]; rfl, by omega, fun e => (n01 e).elim⟩
  · obtain ⟨b1, b2, b3, b4, b5, _, b7, _, b9, _, n, n1, n2, n3, _⟩ := hT
    exact ⟨b1, b2, b3, by rw [a2]; exact b4, by rw [a2]; exact b5, by rw [a2]; rfl, by rw [a2]; exact b7, by omega, b9, fun k hk => absurd hk (Nat.not_lt_zero k), n, n1, k.ay n2, k.ay n3, fun e => by omega⟩
  · obtain ⟨b1, b2, _, _, _, n, n1, n2, _⟩ := hS
    exact ⟨b1, by rw [a3]; exact b2, by rw [a3]; rfl, by omega, fun k hk => absurd hk (Nat.not_lt_zero k), n, n1, k.ay n2, fun e => by omega⟩
theorem c_X_forget {d mc ms : Nat} {M : pm_M} (lay0 : Lay M) {T : Tab} (hC : Chs M T) :
    pm_E d 154 [(2, ((1 : Nat) : Int))] M mc ms (fun ρ M' => ρ = none ∧ Lay M' ∧ Fr [44, 47, 51, 98, 104, 110] M M' ∧ ∀ T', Chs M' T') := by
  show Wp d 154 0 [(2, ((1 : Nat) : Int)), (9, 0)] [] M mc ms _
  refine g_aload_n lk_154_0 rfl ?_
  refine g_getfield lk_154_1 rfl (lay0.on (by decide) rfl) (v := ((44 : Nat) : Int)) (lay0.rf rfl) ?_
  refine g_iconst lk_154_4 ?_
  have lay1 : Lay (Mu [(44, pm_upd (pm_ct M 44) 2 0)] M) := lay0.muF (l := []) (a := 44) (k := 2) (z := 0) rfl rfl
  refine m_putfield (u := []) (u' := [(44, pm_upd (pm_ct M 44) 2 0)]) (M := M) lk_154_5 rfl (lay0.on (by decide) rfl) (fun _ => by omega) rfl ?_
  refine g_aload_n lk_154_8 rfl ?_
  refine g_getfield lk_154_9 rfl (lay1.on (by decide) rfl) (v := ((47 : Nat) : Int)) (lay1.rf rfl) ?_
  refine g_iconst lk_154_12 ?_
  have lay2 : Lay (Mu [(44, pm_upd (pm_ct M 44) 2 0), (47, pm_upd (pm_ct M 47) 5 0)] M) := lay1.muF (l := [(44, pm_upd (pm_ct M 44) 2 0)]) (a := 47) (k := 5) (z := 0) rfl rfl
  refine m_putfield (u := [(44, pm_upd (pm_ct M 44) 2 0)]) (u' := [(44, pm_upd (pm_ct M 44) 2 0), (47, pm_upd (pm_ct M 47) 5 0)]) (M := M) lk_154_13 rfl (lay1.on (by decide) rfl) (fun h => absurd h (by decide)) rfl ?_
  refine g_aload_n lk_154_16 rfl ?_
  refine g_getfield lk_154_17 rfl (lay2.on (by decide) rfl) (v := ((51 : Nat) : Int)) (lay2.rf rfl) ?_
  refine g_iconst lk_154_20 ?_
  have lay3 : Lay (Mu [(44, pm_upd (pm_ct M 44) 2 0), (47, pm_upd (pm_ct M 47) 5 0), (51, pm_upd (pm_ct M 51) 4 0)] M) := lay2.muF (l := [(44, pm_upd (pm_ct M 44) 2 0), (47, pm_upd (pm_ct M 47) 5 0)]) (a := 51) (k := 4) (z := 0) rfl rfl
  refine m_putfield (u := [(44, pm_upd (pm_ct M 44) 2 0), (47, pm_upd (pm_ct M 47) 5 0)]) (u' := [(44, pm_upd (pm_ct M 44) 2 0), (47, pm_upd (pm_ct M 47) 5 0), (51, pm_upd (pm_ct M 51) 4 0)]) (M := M) lk_154_21 rfl (lay2.on (by decide) rfl) (fun h => absurd h (by decide)) rfl ?_
  refine g_iconst lk_154_24 ?_
  refine g_istore_n (ls' := [(2, ((1 : Nat) : Int)), (0, 0)]) lk_154_25 rfl rfl ?_
  refine g_iload_n lk_154_26 rfl ?_
  refine g_iconst lk_154_27 ?_
  refine g_icmp (t := 57) lk_154_28 rfl (by first | (unfold pm_inI; omega) | exact pm_and_in _ _ | exact pm_shr_in _ _ | exact pm_or_in _ _ | exact pm_xor_in _ _ | exact pm_shl_in _ _ | exact pm_cmp_in _ _ | exact pm_b8_in _ | (unfold pm_inI; split <;> omega)) (by first | (unfold pm_inI; omega) | exact pm_and_in _ _ | exact pm_shr_in _ _ | exact pm_or_in _ _ | exact pm_xor_in _ _ | exact pm_shl_in _ _ | exact pm_cmp_in _ _ | exact pm_b8_in _ | (unfold pm_inI; split <;> omega)) (fun h => absurd h (show ¬ ((3 : Int) ≤ (0 : Int)) by omega)) (fun _ => ?_)
  refine g_aload_n lk_154_31 rfl ?_
  refine g_getfield lk_154_32 rfl (lay3.on (by decide) rfl) (v := ((46 : Nat) : Int)) (lay3.rf rfl) ?_
  refine g_iload_n lk_154_35 rfl ?_
  refine g_aaload lk_154_36 (by decide) (lay3.ay (by decide) rfl) (by omega) (v := ((98 : Nat) : Int)) (lay3.rf rfl) ?_
  refine g_iconst lk_154_37 ?_
  have lay4 : Lay (Mu [(44, pm_upd (pm_ct M 44) 2 0), (47, pm_upd (pm_ct M 47) 5 0), (51, pm_upd (pm_ct M 51) 4 0), (98, pm_upd (pm_ct M 98) 5 0)] M) := lay3.muF (l := [(44, pm_upd (pm_ct M 44) 2 0), (47, pm_upd (pm_ct M 47) 5 0), (51, pm_upd (pm_ct M 51) 4 0)]) (a := 98) (k := 5) (z := 0) rfl rfl
  refine m_putfield (u := [(44, pm_upd (pm_ct M 44) 2 0), (47, pm_upd (pm_ct M 47) 5 0), (51, pm_upd (pm_ct M 51) 4 0)]) (u' := [(44, pm_upd (pm_ct M 44) 2 0), (47, pm_upd (pm_ct M 47) 5 0), (51, pm_upd (pm_ct M 51) 4 0), (98, pm_upd (pm_ct M 98) 5 0)]) (M := M) lk_154_38 rfl (lay3.on (by decide) rfl) (fun _ => by omega) rfl ?_
  refine g_aload_n lk_154_41 rfl ?_
  refine g_getfield lk_154_42 rfl (lay4.on (by decide) rfl) (v := ((46 : Nat) : Int)) (lay4.rf rfl) ?_
  refine g_iload_n lk_154_45 rfl ?_
  refine g_aaload lk_154_46 (by decide) (lay4.ay (by decide) rfl) (by omega) (v := ((98 : Nat) : Int)) (lay4.rf rfl) ?_
  refine g_iconst lk_154_47 ?_
  have lay5 : Lay (Mu [(44, pm_upd (pm_ct M 44) 2 0), (47, pm_upd (pm_ct M 47) 5 0), (51, pm_upd (pm_ct M 51) 4 0), (98, pm_upd (pm_upd (pm_ct M 98) 5 0) 6 0)] M) := lay4.muF (l := [(44, pm_upd (pm_ct M 44) 2 0), (47, pm_upd (pm_ct M 47) 5 0), (51, pm_upd (pm_ct M 51) 4 0), (98, pm_upd (pm_ct M 98) 5 0)]) (a := 98) (k := 6) (z := 0) rfl rfl
  refine m_putfield (u := [(44, pm_upd (pm_ct M 44) 2 0), (47, pm_upd (pm_ct M 47) 5 0), (51, pm_upd (pm_ct M 51) 4 0), (98, pm_upd (pm_ct M 98) 5 0)]) (u' := [(44, pm_upd (pm_ct M 44) 2 0), (47, pm_upd (pm_ct M 47) 5 0), (51, pm_upd (pm_ct M 51) 4 0), (98, pm_upd (pm_upd (pm_ct M 98) 5 0) 6 0)]) (M := M) lk_154_48 rfl (lay4.on (by decide) rfl) (fun _ => by omega) rfl ?_
  refine g_iinc (ls' := [(2, ((1 : Nat) : Int)), (0, 1)]) lk_154_51 rfl rfl rfl ?_
  refine g_goto (t := 26) lk_154_54 rfl ?_
  refine g_iload_n lk_154_26 rfl ?_
  refine g_iconst lk_154_27 ?_
  refine g_icmp (t := 57) lk_154_28 rfl (by first | (unfold pm_inI; omega) | exact pm_and_in _ _ | exact pm_shr_in _ _ | exact pm_or_in _ _ | exact pm_xor_in _ _ | exact pm_shl_in _ _ | exact pm_cmp_in _ _ | exact pm_b8_in _ | (unfold pm_inI; split <;> omega)) (by first | (unfold pm_inI; omega) | exact pm_and_in _ _ | exact pm_shr_in _ _ | exact pm_or_in _ _ | exact pm_xor_in _ _ | exact pm_shl_in _ _ | exact pm_cmp_in _ _ | exact pm_b8_in _ | (unfold pm_inI; split <;> omega)) (fun h => absurd h (show ¬ ((3 : Int) ≤ (1 : Int)) by omega)) (fun _ => ?_)
  refine g_aload_n lk_154_31 rfl ?_
  refine g_getfield lk_154_32 rfl (lay5.on (by decide) rfl) (v := ((46 : Nat) : Int)) (lay5.rf rfl) ?_
  refine g_iload_n lk_154_35 rfl ?_
  refine g_aaload lk_154_36 (by decide) (lay5.ay (by decide) rfl) (by omega) (v := ((104 : Nat) : Int)) (lay5.rf rfl) ?_
  refine g_iconst lk_154_37 ?_
  have lay6 : Lay (Mu [(44, pm_upd (pm_ct M 44) 2 0), (47, pm_upd (pm_ct M 47) 5 0), (51, pm_upd (pm_ct M 51) 4 0), (98, pm_upd (pm_upd (pm_ct M 98) 5 0) 6 0), (104, pm_upd (pm_ct M 104) 5 0)] M) := lay5.muF (l := [(44, pm_upd (pm_ct M 44) 2 0), (47, pm_upd (pm_ct M 47) 5 0), (51, pm_upd (pm_ct M 51) 4 0), (98, pm_upd (pm_upd (pm_ct M 98) 5 0) 6 0)]) (a := 104) (k := 5) (z := 0) rfl rfl
  refine m_putfield (u := [(44, pm_upd (pm_ct M 44) 2 0), (47, pm_upd (pm_ct M 47) 5 0), (51, pm_upd (pm_ct M 51) 4 0), (98, pm_upd (pm_upd (pm_ct M 98) 5 0) 6 0)]) (u' := [(44, pm_upd (pm_ct M 44) 2 0), (47, pm_upd (pm_ct M 47) 5 0), (51, pm_upd (pm_ct M 51) 4 0), (98, pm_upd (pm_upd (pm_ct M 98) 5 0) 6 0), (104, pm_upd (pm_ct M 104) 5 0)]) (M := M) lk_154_38 rfl (lay5.on (by decide) rfl) (fun _ => by omega) rfl ?_
  refine g_aload_n lk_154_41 rfl ?_
  refine g_getfield lk_154_42 rfl (lay6.on (by decide) rfl) (v := ((46 : Nat) : Int)) (lay6.rf rfl) ?_
  refine g_iload_n lk_154_45 rfl ?_
  refine g_aaload lk_154_46 (by decide) (lay6.ay (by decide) rfl) (by omega) (v := ((104 : Nat) : Int)) (lay6.rf rfl) ?_
  refine g_iconst lk_154_47 ?_
  have lay7 : Lay (Mu [(44, pm_upd (pm_ct M 44) 2 0), (47, pm_upd (pm_ct M 47) 5 0), (51, pm_upd (pm_ct M 51) 4 0), (98, pm_upd (pm_upd (pm_ct M 98) 5 0) 6 0), (104, pm_upd (pm_upd (pm_ct M 104) 5 0) 6 0)] M) := lay6.muF (l := [(44, pm_upd (pm_ct M 44) 2 0), (47, pm_upd (pm_ct M 47) 5 0), (51, pm_upd (pm_ct M 51) 4 0), (98, pm_upd (pm_upd (pm_ct M 98) 5 0) 6 0), (104, pm_upd (pm_ct M 104) 5 0)]) (a := 104) (k := 6) (z := 0) rfl rfl
  refine m_putfield (u := [(44, pm_upd (pm_ct M 44) 2 0), (47, pm_upd (pm_ct M 47) 5 0), (51, pm_upd (pm_ct M 51) 4 0), (98, pm_upd (pm_upd (pm_ct M 98) 5 0) 6 0), (104, pm_upd (pm_ct M 104) 5 0)]) (u' := [(44, pm_upd (pm_ct M 44) 2 0), (47, pm_upd (pm_ct M 47) 5 0), (51, pm_upd (pm_ct M 51) 4 0), (98, pm_upd (pm_upd (pm_ct M 98) 5 0) 6 0), (104, pm_upd (pm_upd (pm_ct M 104) 5 0) 6 0)]) (M := M) lk_154_48 rfl (lay6.on (by decide) rfl) (fun _ => by omega) rfl ?_
  refine g_iinc (ls' := [(2, ((1 : Nat) : Int)), (0, 2)]) lk_154_51 rfl rfl rfl ?_
  refine g_goto (t := 26) lk_154_54 rfl ?_
  refine g_iload_n lk_154_26 rfl ?_
  refine g_iconst lk_154_27 ?_
  refine g_icmp (t := 57) lk_154_28 rfl (by first | (unfold pm_inI; omega) | exact pm_and_in _ _ | exact pm_shr_in _ _ | exact pm_or_in _ _ | exact pm_xor_in _ _ | exact pm_shl_in _ _ | exact pm_cmp_in _ _ | exact pm_b8_in _ | (unfold pm_inI; split <;> omega)) (by first | (unfold pm_inI; omega) | exact pm_and_in _ _ | exact pm_shr_in _ _ | exact pm_or_in _ _ | exact pm_xor_in _ _ | exact pm_shl_in _ _ | exact pm_cmp_in _ _ | exact pm_b8_in _ | (unfold pm_inI; split <;> omega)) (fun h => absurd h (show ¬ ((3 : Int) ≤ (2 : Int)) by omega)) (fun _ => ?_)
  refine g_aload_n lk_154_31 rfl ?_
  refine g_getfield lk_154_32 rfl (lay7.on (by decide) rfl) (v := ((46 : Nat) : Int)) (lay7.rf rfl) ?_
  refine g_iload_n lk_154_35 rfl ?_
  refine g_aaload lk_154_36 (by decide) (lay7.ay (by decide) rfl) (by omega) (v := ((110 : Nat) : Int)) (lay7.rf rfl) ?_
  refine g_iconst lk_154_37 ?_
  have lay8 : Lay (Mu [(44, pm_upd (pm_ct M 44) 2 0), (47, pm_upd (pm_ct M 47) 5 0), (51, pm_upd (pm_ct M 51) 4 0), (98, pm_upd (pm_upd (pm_ct M 98) 5 0) 6 0), (104, pm_upd (pm_upd (pm_ct M 104) 5 0) 6 0), (110, pm_upd (pm_ct M 110) 5 0)] M) := lay7.muF (l := [(44, pm_upd (pm_ct M 44) 2 0), (47, pm_upd (pm_ct M 47) 5 0), (51, pm_upd (pm_ct M 51) 4 0), (98, pm_upd (pm_upd (pm_ct M 98) 5 0) 6 0), (104, pm_upd (pm_upd (pm_ct M 104) 5 0) 6 0)]) (a := 110) (k := 5) (z := 0) rfl rfl
  refine m_putfield (u := [(44, pm_upd (pm_ct M 44) 2 0), (47, pm_upd (pm_ct M 47) 5 0), (51, pm_upd (pm_ct M 51) 4 0), (98, pm_upd (pm_upd (pm_ct M 98) 5 0) 6 0), (104, pm_upd (pm_upd (pm_ct M 104) 5 0) 6 0)]) (u' := [(44, pm_upd (pm_ct M 44) 2 0), (47, pm_upd (pm_ct M 47) 5 0), (51, pm_upd (pm_ct M 51) 4 0), (98, pm_upd (pm_upd (pm_ct M 98) 5 0) 6 0), (104, pm_upd (pm_upd (pm_ct M 104) 5 0) 6 0), (110, pm_upd (pm_ct M 110) 5 0)]) (M := M) lk_154_38 rfl (lay7.on (by decide) rfl) (fun _ => by omega) rfl ?_
  refine g_aload_n lk_154_41 rfl ?_
  refine g_getfield lk_154_42 rfl (lay8.on (by decide) rfl) (v := ((46 : Nat) : Int)) (lay8.rf rfl) ?_
  refine g_iload_n lk_154_45 rfl ?_
  refine g_aaload lk_154_46 (by decide) (lay8.ay (by decide) rfl) (by omega) (v := ((110 : Nat) : Int)) (lay8.rf rfl) ?_
  refine g_iconst lk_154_47 ?_
  have lay9 : Lay (Mu [(44, pm_upd (pm_ct M 44) 2 0), (47, pm_upd (pm_ct M 47) 5 0), (51, pm_upd (pm_ct M 51) 4 0), (98, pm_upd (pm_upd (pm_ct M 98) 5 0) 6 0), (104, pm_upd (pm_upd (pm_ct M 104) 5 0) 6 0), (110, pm_upd (pm_upd (pm_ct M 110) 5 0) 6 0)] M) := lay8.muF (l := [(44, pm_upd (pm_ct M 44) 2 0), (47, pm_upd (pm_ct M 47) 5 0), (51, pm_upd (pm_ct M 51) 4 0), (98, pm_upd (pm_upd (pm_ct M 98) 5 0) 6 0), (104, pm_upd (pm_upd (pm_ct M 104) 5 0) 6 0), (110, pm_upd (pm_ct M 110) 5 0)]) (a := 110) (k := 6) (z := 0) rfl rfl
  refine m_putfield (u := [(44, pm_upd (pm_ct M 44) 2 0), (47, pm_upd (pm_ct M 47) 5 0), (51, pm_upd (pm_ct M 51) 4 0), (98, pm_upd (pm_upd (pm_ct M 98) 5 0) 6 0), (104, pm_upd (pm_upd (pm_ct M 104) 5 0) 6 0), (110, pm_upd (pm_ct M 110) 5 0)]) (u' := [(44, pm_upd (pm_ct M 44) 2 0), (47, pm_upd (pm_ct M 47) 5 0), (51, pm_upd (pm_ct M 51) 4 0), (98, pm_upd (pm_upd (pm_ct M 98) 5 0) 6 0), (104, pm_upd (pm_upd (pm_ct M 104) 5 0) 6 0), (110, pm_upd (pm_upd (pm_ct M 110) 5 0) 6 0)]) (M := M) lk_154_48 rfl (lay8.on (by decide) rfl) (fun _ => by omega) rfl ?_
  refine g_iinc (ls' := [(2, ((1 : Nat) : Int)), (0, 3)]) lk_154_51 rfl rfl rfl ?_
  refine g_goto (t := 26) lk_154_54 rfl ?_
  refine g_iload_n lk_154_26 rfl ?_
  refine g_iconst lk_154_27 ?_
  refine g_icmp (t := 57) lk_154_28 rfl (by first | (unfold pm_inI; omega) | exact pm_and_in _ _ | exact pm_shr_in _ _ | exact pm_or_in _ _ | exact pm_xor_in _ _ | exact pm_shl_in _ _ | exact pm_cmp_in _ _ | exact pm_b8_in _ | (unfold pm_inI; split <;> omega)) (by first | (unfold pm_inI; omega) | exact pm_and_in _ _ | exact pm_shr_in _ _ | exact pm_or_in _ _ | exact pm_xor_in _ _ | exact pm_shl_in _ _ | exact pm_cmp_in _ _ | exact pm_b8_in _ | (unfold pm_inI; split <;> omega)) (fun _ => ?_) (fun h => absurd (show (3 : Int) ≤ (3 : Int) by omega) h)
  refine g_return lk_154_57 ?_
  refine ⟨rfl, lay9, Fr.mu _ _ rfl, fun T' => hC.forget (Fr.mu _ _ rfl) ?_ ?_ ?_ ?_ ?_ ?_⟩
  · rw [Mu_ct]; rfl
  · rw [Mu_ct]; rfl
  · rw [Mu_ct]; rfl
  · rw [Mu_ct]; rfl
  · rw [Mu_ct]; rfl
  · rw [Mu_ct]; rfl
/-- acts that are kept: how many, each as a number -/
def AcX (M : pm_M) (n : Nat) (a : Nat → Int) : Prop := n ≤ 12 ∧ pm_ct M 1 12 = (n : Int) ∧ ∀ i, i < n → pm_ct M 27 i = a i
def kN (n : Nat) : Nat := if n = 12 then 12 else n + 1
def kA (n : Nat) (a : Nat → Int) (z : Int) (i : Nat) : Int := if n = 12 then (if i = 11 then z else a (i + 1)) else (if i = n then z else a i)
set_option maxHeartbeats 4000000 in
theorem c_X_keep {d mc ms : Nat} {M : pm_M} (lay0 : Lay M) {n : Nat} {a : Nat → Int} (hA : AcX M n a) (z : Int) :
    pm_E d 152 [(2, ((1 : Nat) : Int)), (0, z)] M mc ms (fun ρ M' => ρ = none ∧ Lay M' ∧ Fr [1, 27] M M' ∧ (∀ k, k ≠ 12 → pm_ct M' 1 k = pm_ct M 1 k) ∧ AcX M' (kN n) (kA n a z)) := by
  obtain ⟨n12, h12, ha⟩ := hA
  show Wp d 152 0 [(2, ((1 : Nat) : Int)), (0, z), (9, 0)] [] M mc ms _
  by_cases e : n = 12
  · rw [e] at h12 ha
    have h12' : pm_ct M 1 12 = 12 := h12
    have r0 := ha 0 (by omega)
    have r1 := ha 1 (by omega)
    have r2 := ha 2 (by omega)
    have r3 := ha 3 (by omega)
    have r4 := ha 4 (by omega)
    have r5 := ha 5 (by omega)
    have r6 := ha 6 (by omega)
    have r7 := ha 7 (by omega)
    have r8 := ha 8 (by omega)
    have r9 := ha 9 (by omega)
    have r10 := ha 10 (by omega)
    have r11 := ha 11 (by omega)
    refine g_aload_n lk_152_0 rfl ?_
    refine m_getfield (u := []) (M := M) lk_152_1 rfl (lay0.on (by decide) rfl) (v := 12) h12' ?_
    refine g_bipush lk_152_4 ?_
    refine g_icmp (t := 43) lk_152_6 rfl (by first | (unfold pm_inI; omega) | exact pm_and_in _ _ | exact pm_shr_in _ _ | exact pm_or_in _ _ | exact pm_xor_in _ _ | exact pm_shl_in _ _ | exact pm_cmp_in _ _ | exact pm_b8_in _ | (unfold pm_inI; split <;> omega)) (by first | (unfold pm_inI; omega) | exact pm_and_in _ _ | exact pm_shr_in _ _ | exact pm_or_in _ _ | exact pm_xor_in _ _ | exact pm_shl_in _ _ | exact pm_cmp_in _ _ | exact pm_b8_in _ | (unfold pm_inI; split <;> omega)) (fun h => absurd h (show ¬ ((12 : Int) < (12 : Int)) by omega)) (fun _ => ?_)
    refine g_iconst lk_152_9 ?_
    refine g_istore_n (ls' := [(2, ((1 : Nat) : Int)), (0, z), (0, 1)]) lk_152_10 rfl rfl ?_
    refine g_iload_n lk_152_11 rfl ?_
    refine g_bipush lk_152_12 ?_
    refine g_icmp (t := 37) lk_152_14 rfl (by first | (unfold pm_inI; omega) | exact pm_and_in _ _ | exact pm_shr_in _ _ | exact pm_or_in _ _ | exact pm_xor_in _ _ | exact pm_shl_in _ _ | exact pm_cmp_in _ _ | exact pm_b8_in _ | (unfold pm_inI; split <;> omega)) (by first | (unfold pm_inI; omega) | exact pm_and_in _ _ | exact pm_shr_in _ _ | exact pm_or_in _ _ | exact pm_xor_in _ _ | exact pm_shl_in _ _ | exact pm_cmp_in _ _ | exact pm_b8_in _ | (unfold pm_inI; split <;> omega)) (fun h => absurd h (show ¬ ((12 : Int) ≤ (1 : Int)) by omega)) (fun _ => ?_)
    refine g_aload_n lk_152_17 rfl ?_
    refine g_getfield lk_152_18 rfl (lay0.on (by decide) rfl) (v := ((27 : Nat) : Int)) (lay0.rf rfl) ?_
    refine g_iload_n lk_152_21 rfl ?_
    refine g_iconst lk_152_22 ?_
    refine g_isub lk_152_23 ?_
    refine g_top (z := (1 - 1)) (z' := 0) (by omega) ?_
    refine g_aload_n lk_152_24 rfl ?_
    refine g_getfield lk_152_25 rfl (lay0.on (by decide) rfl) (v := ((27 : Nat) : Int)) (lay0.rf rfl) ?_
    refine g_iload_n lk_152_28 rfl ?_
    refine m_iaload (u := []) (M := M) lk_152_29 (lay0.ay (by decide) rfl) (by omega) (j := 1) (by omega) (v := pm_ct M 27 1) rfl ?_
    have lay1 : Lay (Mu [(27, pm_upd (pm_ct M 27) 0 (pm_ct M 27 1))] M) := lay0.muA (l := []) (a := 27) (f := pm_upd (pm_ct M 27) 0 (pm_ct M 27 1)) rfl rfl
    refine m_iastore (u := []) (u' := [(27, pm_upd (pm_ct M 27) 0 (pm_ct M 27 1))]) (M := M) lk_152_30 (lay0.ay (by decide) rfl) (by omega) (j := 0) (by omega) rfl ?_
    refine g_iinc (ls' := [(2, ((1 : Nat) : Int)), (0, z), (0, 2)]) lk_152_31 rfl rfl rfl ?_
    refine g_goto (t := 11) lk_152_34 rfl ?_
    refine g_iload_n lk_152_11 rfl ?_
    refine g_bipush lk_152_12 ?_
    refine g_icmp (t := 37) lk_152_14 rfl (by first | (unfold pm_inI; omega) | exact pm_and_in _ _ | exact pm_shr_in _ _ | exact pm_or_in _ _ | exact pm_xor_in _ _ | exact pm_shl_in _ _ | exact pm_cmp_in _ _ | exact pm_b8_in _ | (unfold pm_inI; split <;> omega)) (by first | (unfold pm_inI; omega) | exact pm_and_in _ _ | exact pm_shr_in _ _ | exact pm_or_in _ _ | exact pm_xor_in _ _ | exact pm_shl_in _ _ | exact pm_cmp_in _ _ | exact pm_b8_in _ | (unfold pm_inI; split <;> omega)) (fun h => absurd h (show ¬ ((12 : Int) ≤ (2 : Int)) by omega)) (fun _ => ?_)
    refine g_aload_n lk_152_17 rfl ?_
    refine g_getfield lk_152_18 rfl (lay1.on (by decide) rfl) (v := ((27 : Nat) : Int)) (lay1.rf rfl) ?_
    refine g_iload_n lk_152_21 rfl ?_
    refine g_iconst lk_152_22 ?_
    refine g_isub lk_152_23 ?_
    refine g_top (z := (2 - 1)) (z' := 1) (by omega) ?_
    refine g_aload_n lk_152_24 rfl ?_
    refine g_getfield lk_152_25 rfl (lay1.on (by decide) rfl) (v := ((27 : Nat) : Int)) (lay1.rf rfl) ?_
    refine g_iload_n lk_152_28 rfl ?_
    refine m_iaload (u := [(27, pm_upd (pm_ct M 27) 0 (pm_ct M 27 1))]) (M := M) lk_152_29 (lay1.ay (by decide) rfl) (by omega) (j := 2) (by omega) (v := pm_ct M 27 2) rfl ?_
    have lay2 : Lay (Mu [(27, pm_upd (pm_upd (pm_ct M 27) 0 (pm_ct M 27 1)) 1 (pm_ct M 27 2))] M) := lay1.muA (l := [(27, pm_upd (pm_ct M 27) 0 (pm_ct M 27 1))]) (a := 27) (f := pm_upd (pm_upd (pm_ct M 27) 0 (pm_ct M 27 1)) 1 (pm_ct M 27 2)) rfl rfl
    refine m_iastore (u := [(27, pm_upd (pm_ct M 27) 0 (pm_ct M 27 1))]) (u' := [(27, pm_upd (pm_upd (pm_ct M 27) 0 (pm_ct M 27 1)) 1 (pm_ct M 27 2))]) (M := M) lk_152_30 (lay1.ay (by decide) rfl) (by omega) (j := 1) (by omega) rfl ?_
    refine g_iinc (ls' := [(2, ((1 : Nat) : Int)), (0, z), (0, 3)]) lk_152_31 rfl rfl rfl ?_
    refine g_goto (t := 11) lk_152_34 rfl ?_
    refine g_iload_n lk_152_11 rfl ?_
    refine g_bipush lk_152_12 ?_
    refine g_icmp (t := 37) lk_152_14 rfl (by first | (unfold pm_inI; omega) | exact pm_and_in _ _ | exact pm_shr_in _ _ | exact pm_or_in _ _ | exact pm_xor_in _ _ | exact pm_shl_in _ _ | exact pm_cmp_in _ _ | exact pm_b8_in _ | (unfold pm_inI; split <;> omega)) (by first | (unfold pm_inI; omega) | exact pm_and_in _ _ | exact pm_shr_in _ _ | exact pm_or_in _ _ | exact pm_xor_in _ _ | exact pm_shl_in _ _ | exact pm_cmp_in _ _ | exact pm_b8_in _ | (unfold pm_inI; split <;> omega)) (fun h => absurd h (show ¬ ((12 : Int) ≤ (3 : Int)) by omega)) (fun _ => ?_)
    refine g_aload_n lk_152_17 rfl ?_
    refine g_getfield lk_152_18 rfl (lay2.on (by decide) rfl) (v := ((27 : Nat) : Int)) (lay2.rf rfl) ?_
    refine g_iload_n lk_152_21 rfl ?_
    refine g_iconst lk_152_22 ?_
    refine g_isub lk_152_23 ?_
    refine g_top (z := (3 - 1)) (z' := 2) (by omega) ?_
    refine g_aload_n lk_152_24 rfl ?_
    refine g_getfield lk_152_25 rfl (lay2.on (by decide) rfl) (v := ((27 : Nat) : Int)) (lay2.rf rfl) ?_
    refine g_iload_n lk_152_28 rfl ?_
    refine m_iaload (u := [(27, pm_upd (pm_upd (pm_ct M 27) 0 (pm_ct M 27 1)) 1 (pm_ct M 27 2))]) (M := M) lk_152_29 (lay2.ay (by decide) rfl) (by omega) (j := 3) (by omega) (v := pm_ct M 27 3) rfl ?_
    have lay3 : Lay (Mu [(27, pm_upd (pm_upd (pm_upd (pm_ct M 27) 0 (pm_ct M 27 1)) 1 (pm_ct M 27 2)) 2 (pm_ct M 27 3))] M) := lay2.muA (l := [(27, pm_upd (pm_upd (pm_ct M 27) 0 (pm_ct M 27 1)) 1 (pm_ct M 27 2))]) (a := 27) (f := pm_upd (pm_upd (pm_upd (pm_ct M 27) 0 (pm_ct M 27 1)) 1 (pm_ct M 27 2)) 2 (pm_ct M 27 3)) rfl rfl
    refine m_iastore (u := [(27, pm_upd (pm_upd (pm_ct M 27) 0 (pm_ct M 27 1)) 1 (pm_ct M 27 2))]) (u' := [(27, pm_upd (pm_upd (pm_upd (pm_ct M 27) 0 (pm_ct M 27 1)) 1 (pm_ct M 27 2)) 2 (pm_ct M 27 3))]) (M := M) lk_152_30 (lay2.ay (by decide) rfl) (by omega) (j := 2) (by omega) rfl ?_
    refine g_iinc (ls' := [(2, ((1 : Nat) : Int)), (0, z), (0, 4)]) lk_152_31 rfl rfl rfl ?_
    refine g_goto (t := 11) lk_152_34 rfl ?_
    refine g_iload_n lk_152_11 rfl ?_
    refine g_bipush lk_152_12 ?_
    refine g_icmp (t := 37) lk_152_14 rfl (by first | (unfold pm_inI; omega) | exact pm_and_in _ _ | exact pm_shr_in _ _ | exact pm_or_in _ _ | exact pm_xor_in _ _ | exact pm_shl_in _ _ | exact pm_cmp_in _ _ | exact pm_b8_in _ | (unfold pm_inI; split <;> omega)) (by first | (unfold pm_inI; omega) | exact pm_and_in _ _ | exact pm_shr_in _ _ | exact pm_or_in _ _ | exact pm_xor_in _ _ | exact pm_shl_in _ _ | exact pm_cmp_in _ _ | exact pm_b8_in _ | (unfold pm_inI; split <;> omega)) (fun h => absurd h (show ¬ ((12 : Int) ≤ (4 : Int)) by omega)) (fun _ => ?_)
    refine g_aload_n lk_152_17 rfl ?_
    refine g_getfield lk_152_18 rfl (lay3.on (by decide) rfl) (v := ((27 : Nat) : Int)) (lay3.rf rfl) ?_
    refine g_iload_n lk_152_21 rfl ?_
    refine g_iconst lk_152_22 ?_
    refine g_isub lk_152_23 ?_
    refine g_top (z := (4 - 1)) (z' := 3) (by omega) ?_
    refine g_aload_n lk_152_24 rfl ?_
    refine g_getfield lk_152_25 rfl (lay3.on (by decide) rfl) (v := ((27 : Nat) : Int)) (lay3.rf rfl) ?_
    refine g_iload_n lk_152_28 rfl ?_
    refine m_iaload (u := [(27, pm_upd (pm_upd (pm_upd (pm_ct M 27) 0 (pm_ct M 27 1)) 1 (pm_ct M 27 2)) 2 (pm_ct M 27 3))]) (M := M) lk_152_29 (lay3.ay (by decide) rfl) (by omega) (j := 4) (by omega) (v := pm_ct M 27 4) rfl ?_
    have lay4 : Lay (Mu [(27, pm_upd (pm_upd (pm_upd (pm_upd (pm_ct M 27) 0 (pm_ct M 27 1)) 1 (pm_ct M 27 2)) 2 (pm_ct M 27 3)) 3 (pm_ct M 27 4))] M) := lay3.muA (l := [(27, pm_upd (pm_upd (pm_upd (pm_ct M 27) 0 (pm_ct M 27 1)) 1 (pm_ct M 27 2)) 2 (pm_ct M 27 3))]) (a := 27) (f := pm_upd (pm_upd (pm_upd (pm_upd (pm_ct M 27) 0 (pm_ct M 27 1)) 1 (pm_ct M 27 2)) 2 (pm_ct M 27 3)) 3 (pm_ct M 27 4)) rfl rfl
    refine m_iastore (u := [(27, pm_upd (pm_upd (pm_upd (pm_ct M 27) 0 (pm_ct M 27 1)) 1 (pm_ct M 27 2)) 2 (pm_ct M 27 3))]) (u' := [(27, pm_upd (pm_upd (pm_upd (pm_upd (pm_ct M 27) 0 (pm_ct M 27 1)) 1 (pm_ct M 27 2)) 2 (pm_ct M 27 3)) 3 (pm_ct M 27 4))]) (M := M) lk_152_30 (lay3.ay (by decide) rfl) (by omega) (j := 3) (by omega) rfl ?_
    refine g_iinc (ls' := [(2, ((1 : Nat) : Int)), (0, z), (0, 5)]) lk_152_31 rfl rfl rfl ?_
    refine g_goto (t := 11) lk_152_34 rfl ?_
    refine g_iload_n lk_152_11 rfl ?_
    refine g_bipush lk_152_12 ?_
    refine g_icmp (t := 37) lk_152_14 rfl (by first | (unfold pm_inI; omega) | exact pm_and_in _ _ | exact pm_shr_in _ _ | exact pm_or_in _ _ | exact pm_xor_in _ _ | exact pm_shl_in _ _ | exact pm_cmp_in _ _ | exact pm_b8_in _ | (unfold pm_inI; split <;> omega)) (by first | (unfold pm_inI; omega) | exact pm_and_in _ _ | exact pm_shr_in _ _ | exact pm_or_in _ _ | exact pm_xor_in _ _ | exact pm_shl_in _ _ | exact pm_cmp_in _ _ | exact pm_b8_in _ | (unfold pm_inI; split <;> omega)) (fun h => absurd h (show ¬ ((12 : Int) ≤ (5 : Int)) by omega)) (fun _ => ?_)
    refine g_aload_n lk_152_17 rfl ?_
    refine g_getfield lk_152_18 rfl (lay4.on (by decide) rfl) (v := ((27 : Nat) : Int)) (lay4.rf rfl) ?_
    refine g_iload_n lk_152_21 rfl ?_
    refine g_iconst lk_152_22 ?_
    refine g_isub lk_152_23 ?_
    refine g_top (z := (5 - 1)) (z' := 4) (by omega) ?_
    refine g_aload_n lk_152_24 rfl ?_
    refine g_getfield lk_152_25 rfl (lay4.on (by decide) rfl) (v := ((27 : Nat) : Int)) (lay4.rf rfl) ?_
    refine g_iload_n lk_152_28 rfl ?_
    refine m_iaload (u := [(27, pm_upd (pm_upd (pm_upd (pm_upd (pm_ct M 27) 0 (pm_ct M 27 1)) 1 (pm_ct M 27 2)) 2 (pm_ct M 27 3)) 3 (pm_ct M 27 4))]) (M := M) lk_152_29 (lay4.ay (by decide) rfl) (by omega) (j := 5) (by omega) (v := pm_ct M 27 5) rfl ?_
    have lay5 : Lay (Mu [(27, pm_upd (pm_upd (pm_upd (pm_upd (pm_upd (pm_ct M 27) 0 (pm_ct M 27 1)) 1 (pm_ct M 27 2)) 2 (pm_ct M 27 3)) 3 (pm_ct M 27 4)) 4 (pm_ct M 27 5))] M) := lay4.muA (l := [(27, pm_upd (pm_upd (pm_upd (pm_upd (pm_ct M 27) 0 (pm_ct M 27 1)) 1 (pm_ct M 27 2)) 2 (pm_ct M 27 3)) 3 (pm_ct M 27 4))]) (a := 27) (f := pm_upd (pm_upd (pm_upd (pm_upd (pm_upd (pm_ct M 27) 0 (pm_ct M 27 1)) 1 (pm_ct M 27 2)) 2 (pm_ct M 27 3)) 3 (pm_ct M 27 4)) 4 (pm_ct M 27 5)) rfl rfl
    refine m_iastore (u := [(27, pm_upd (pm_upd (pm_upd (pm_upd (pm_ct M 27) 0 (pm_ct M 27 1)) 1 (pm_ct M 27 2)) 2 (pm_ct M 27 3)) 3 (pm_ct M 27 4))]) (u' := [(27, pm_upd (pm_upd (pm_upd (pm_upd (pm_upd (pm_ct M 27) 0 (pm_ct M 27 1)) 1 (pm_ct M 27 2)) 2 (pm_ct M 27 3)) 3 (pm_ct M 27 4)) 4 (pm_ct M 27 5))]) (M := M) lk_152_30 (lay4.ay (by decide) rfl) (by omega) (j := 4) (by omega) rfl ?_
    refine g_iinc (ls' := [(2, ((1 : Nat) : Int)), (0, z), (0, 6)]) lk_152_31 rfl rfl rfl ?_
    refine g_goto (t := 11) lk_152_34 rfl ?_
    refine g_iload_n lk_152_11 rfl ?_
    refine g_bipush lk_152_12 ?_
    refine g_icmp (t := 37) lk_152_14 rfl (by first | (unfold pm_inI; omega) | exact pm_and_in _ _ | exact pm_shr_in _ _ | exact pm_or_in _ _ | exact pm_xor_in _ _ | exact pm_shl_in _ _ | exact pm_cmp_in _ _ | exact pm_b8_in _ | (unfold pm_inI; split <;> omega)) (by first | (unfold pm_inI; omega) | exact pm_and_in _ _ | exact pm_shr_in _ _ | exact pm_or_in _ _ | exact pm_xor_in _ _ | exact pm_shl_in _ _ | exact pm_cmp_in _ _ | exact pm_b8_in _ | (unfold pm_inI; split <;> omega)) (fun h => absurd h (show ¬ ((12 : Int) ≤ (6 : Int)) by omega)) (fun _ => ?_)
    refine g_aload_n lk_152_17 rfl ?_
    refine g_getfield lk_152_18 rfl (lay5.on (by decide) rfl) (v := ((27 : Nat) : Int)) (lay5.rf rfl) ?_
    refine g_iload_n lk_152_21 rfl ?_
    refine g_iconst lk_152_22 ?_
    refine g_isub lk_152_23 ?_
    refine g_top (z := (6 - 1)) (z' := 5) (by omega) ?_
    refine g_aload_n lk_152_24 rfl ?_
    refine g_getfield lk_152_25 rfl (lay5.on (by decide) rfl) (v := ((27 : Nat) : Int)) (lay5.rf rfl) ?_
    refine g_iload_n lk_152_28 rfl ?_
    refine m_iaload (u := [(27, pm_upd (pm_upd (pm_upd (pm_upd (pm_upd (pm_ct M 27) 0 (pm_ct M 27 1)) 1 (pm_ct M 27 2)) 2 (pm_ct M 27 3)) 3 (pm_ct M 27 4)) 4 (pm_ct M 27 5))]) (M := M) lk_152_29 (lay5.ay (by decide) rfl) (by omega) (j := 6) (by omega) (v := pm_ct M 27 6) rfl ?_
    have lay6 : Lay (Mu [(27, pm_upd (pm_upd (pm_upd (pm_upd (pm_upd (pm_upd (pm_ct M 27) 0 (pm_ct M 27 1)) 1 (pm_ct M 27 2)) 2 (pm_ct M 27 3)) 3 (pm_ct M 27 4)) 4 (pm_ct M 27 5)) 5 (pm_ct M 27 6))] M) := lay5.muA (l := [(27, pm_upd (pm_upd (pm_upd (pm_upd (pm_upd (pm_ct M 27) 0 (pm_ct M 27 1)) 1 (pm_ct M 27 2)) 2 (pm_ct M 27 3)) 3 (pm_ct M 27 4)) 4 (pm_ct M 27 5))]) (a := 27) (f := pm_upd (pm_upd (pm_upd (pm_upd (pm_upd (pm_upd (pm_ct M 27) 0 (pm_ct M 27 1)) 1 (pm_ct M 27 2)) 2 (pm_ct M 27 3)) 3 (pm_ct M 27 4)) 4 (pm_ct M 27 5)) 5 (pm_ct M 27 6)) rfl rfl
    refine m_iastore (u := [(27, pm_upd (pm_upd (pm_upd (pm_upd (pm_upd (pm_ct M 27) 0 (pm_ct M 27 1)) 1 (pm_ct M 27 2)) 2 (pm_ct M 27 3)) 3 (pm_ct M 27 4)) 4 (pm_ct M 27 5))]) (u' := [(27, pm_upd (pm_upd (pm_upd (pm_upd (pm_upd (pm_upd (pm_ct M 27) 0 (pm_ct M 27 1)) 1 (pm_ct M 27 2)) 2 (pm_ct M 27 3)) 3 (pm_ct M 27 4)) 4 (pm_ct M 27 5)) 5 (pm_ct M 27 6))]) (M := M) lk_152_30 (lay5.ay (by decide) rfl) (by omega) (j := 5) (by omega) rfl ?_
    refine g_iinc (ls' := [(2, ((1 : Nat) : Int)), (0, z), (0, 7)]) lk_152_31 rfl rfl rfl ?_
    refine g_goto (t := 11) lk_152_34 rfl ?_
    refine g_iload_n lk_152_11 rfl ?_
    refine g_bipush lk_152_12 ?_
    refine g_icmp (t := 37) lk_152_14 rfl (by first | (unfold pm_inI; omega) | exact pm_and_in _ _ | exact pm_shr_in _ _ | exact pm_or_in _ _ | exact pm_xor_in _ _ | exact pm_shl_in _ _ | exact pm_cmp_in _ _ | exact pm_b8_in _ | (unfold pm_inI; split <;> omega)) (by first | (unfold pm_inI; omega) | exact pm_and_in _ _ | exact pm_shr_in _ _ | exact pm_or_in _ _ | exact pm_xor_in _ _ | exact pm_shl_in _ _ | exact pm_cmp_in _ _ | exact pm_b8_in _ | (unfold pm_inI; split <;> omega)) (fun h => absurd h (show ¬ ((12 : Int) ≤ (7 : Int)) by omega)) (fun _ => ?_)
    refine g_aload_n lk_152_17 rfl ?_
    refine g_getfield lk_152_18 rfl (lay6.on (by decide) rfl) (v := ((27 : Nat) : Int)) (lay6.rf rfl) ?_
    refine g_iload_n lk_152_21 rfl ?_
    refine g_iconst lk_152_22 ?_
    refine g_isub lk_152_23 ?_
    refine g_top (z := (7 - 1)) (z' := 6) (by omega) ?_
    refine g_aload_n lk_152_24 rfl ?_
    refine g_getfield lk_152_25 rfl (lay6.on (by decide) rfl) (v := ((27 : Nat) : Int)) (lay6.rf rfl) ?_
    refine g_iload_n lk_152_28 rfl ?_
    refine m_iaload (u := [(27, pm_upd (pm_upd (pm_upd (pm_upd (pm_upd (pm_upd (pm_ct M 27) 0 (pm_ct M 27 1)) 1 (pm_ct M 27 2)) 2 (pm_ct M 27 3)) 3 (pm_ct M 27 4)) 4 (pm_ct M 27 5)) 5 (pm_ct M 27 6))]) (M := M) lk_152_29 (lay6.ay (by decide) rfl) (by omega) (j := 7) (by omega) (v := pm_ct M 27 7) rfl ?_
    have lay7 : Lay (Mu [(27, pm_upd (pm_upd (pm_upd (pm_upd (pm_upd (pm_upd (pm_upd (pm_ct M 27) 0 (pm_ct M 27 1)) 1 (pm_ct M 27 2)) 2 (pm_ct M 27 3)) 3 (pm_ct M 27 4)) 4 (pm_ct M 27 5)) 5 (pm_ct M 27 6)) 6 (pm_ct M 27 7))] M) := lay6.muA (l := [(27, pm_upd (pm_upd (pm_upd (pm_upd (pm_upd (pm_upd (pm_ct M 27) 0 (pm_ct M 27 1)) 1 (pm_ct M 27 2)) 2 (pm_ct M 27 3)) 3 (pm_ct M 27 4)) 4 (pm_ct M 27 5)) 5 (pm_ct M 27 6))]) (a := 27) (f := pm_upd (pm_upd (pm_upd (pm_upd (pm_upd (pm_upd (pm_upd (pm_ct M 27) 0 (pm_ct M 27 1)) 1 (pm_ct M 27 2)) 2 (pm_ct M 27 3)) 3 (pm_ct M 27 4)) 4 (pm_ct M 27 5)) 5 (pm_ct M 27 6)) 6 (pm_ct M 27 7)) rfl rfl
    refine m_iastore (u := [(27, pm_upd (pm_upd (pm_upd (pm_upd (pm_upd (pm_upd (pm_ct M 27) 0 (pm_ct M 27 1)) 1 (pm_ct M 27 2)) 2 (pm_ct M 27 3)) 3 (pm_ct M 27 4)) 4 (pm_ct M 27 5)) 5 (pm_ct M 27 6))]) (u' := [(27, pm_upd (pm_upd (pm_upd (pm_upd (pm_upd (pm_upd (pm_upd (pm_ct M 27) 0 (pm_ct M 27 1)) 1 (pm_ct M 27 2)) 2 (pm_ct M 27 3)) 3 (pm_ct M 27 4)) 4 (pm_ct M 27 5)) 5 (pm_ct M 27 6)) 6 (pm_ct M 27 7))]) (M := M) lk_152_30 (lay6.ay (by decide) rfl) (by omega) (j := 6) (by omega) rfl ?_
    refine g_iinc (ls' := [(2, ((1 : Nat) : Int)), (0, z), (0, 8)]) lk_152_31 rfl rfl rfl ?_
    refine g_goto (t := 11) lk_152_34 rfl ?_
    refine g_iload_n lk_152_11 rfl ?_
    refine g_bipush lk_152_12 ?_
    refine g_icmp (t := 37) lk_152_14 rfl (by first | (unfold pm_inI; omega) | exact pm_and_in _ _ | exact pm_shr_in _ _ | exact pm_or_in _ _ | exact pm_xor_in _ _ | exact pm_shl_in _ _ | exact pm_cmp_in _ _ | exact pm_b8_in _ | (unfold pm_inI; split <;> omega)) (by first | (unfold pm_inI; omega) | exact pm_and_in _ _ | exact pm_shr_in _ _ | exact pm_or_in _ _ | exact pm_xor_in _ _ | exact pm_shl_in _ _ | exact pm_cmp_in _ _ | exact pm_b8_in _ | (unfold pm_inI; split <;> omega)) (fun h => absurd h (show ¬ ((12 : Int) ≤ (8 : Int)) by omega)) (fun _ => ?_)
    refine g_aload_n lk_152_17 rfl ?_
    refine g_getfield lk_152_18 rfl (lay7.on (by decide) rfl) (v := ((27 : Nat) : Int)) (lay7.rf rfl) ?_
    refine g_iload_n lk_152_21 rfl ?_
    refine g_iconst lk_152_22 ?_
    refine g_isub lk_152_23 ?_
    refine g_top (z := (8 - 1)) (z' := 7) (by omega) ?_
    refine g_aload_n lk_152_24 rfl ?_
    refine g_getfield lk_152_25 rfl (lay7.on (by decide) rfl) (v := ((27 : Nat) : Int)) (lay7.rf rfl) ?_
    refine g_iload_n lk_152_28 rfl ?_
    refine m_iaload (u := [(27, pm_upd (pm_upd (pm_upd (pm_upd (pm_upd (pm_upd (pm_upd (pm_ct M 27) 0 (pm_ct M 27 1)) 1 (pm_ct M 27 2)) 2 (pm_ct M 27 3)) 3 (pm_ct M 27 4)) 4 (pm_ct M 27 5)) 5 (pm_ct M 27 6)) 6 (pm_ct M 27 7))]) (M := M) lk_152_29 (lay7.ay (by decide) rfl) (by omega) (j := 8) (by omega) (v := pm_ct M 27 8) rfl ?_
    have lay8 : Lay (Mu [(27, pm_upd (pm_upd (pm_upd (pm_upd (pm_upd (pm_upd (pm_upd (pm_upd (pm_ct M 27) 0 (pm_ct M 27 1)) 1 (pm_ct M 27 2)) 2 (pm_ct M 27 3)) 3 (pm_ct M 27 4)) 4 (pm_ct M 27 5)) 5 (pm_ct M 27 6)) 6 (pm_ct M 27 7)) 7 (pm_ct M 27 8))] M) := lay7.muA (l := [(27, pm_upd (pm_upd (pm_upd (pm_upd (pm_upd (pm_upd (pm_upd (pm_ct M 27) 0 (pm_ct M 27 1)) 1 (pm_ct M 27 2)) 2 (pm_ct M 27 3)) 3 (pm_ct M 27 4)) 4 (pm_ct M 27 5)) 5 (pm_ct M 27 6)) 6 (pm_ct M 27 7))]) (a := 27) (f := pm_upd (pm_upd (pm_upd (pm_upd (pm_upd (pm_upd (pm_upd (pm_upd (pm_ct M 27) 0 (pm_ct M 27 1)) 1 (pm_ct M 27 2)) 2 (pm_ct M 27 3)) 3 (pm_ct M 27 4)) 4 (pm_ct M 27 5)) 5 (pm_ct M 27 6)) 6 (pm_ct M 27 7)) 7 (pm_ct M 27 8)) rfl rfl
    refine m_iastore (u := [(27, pm_upd (pm_upd (pm_upd (pm_upd (pm_upd (pm_upd (pm_upd (pm_ct M 27) 0 (pm_ct M 27 1)) 1 (pm_ct M 27 2)) 2 (pm_ct M 27 3)) 3 (pm_ct M 27 4)) 4 (pm_ct M 27 5)) 5 (pm_ct M 27 6)) 6 (pm_ct M 27 7))]) (u' := [(27, pm_upd (pm_upd (pm_upd (pm_upd (pm_upd (pm_upd (pm_upd (pm_upd (pm_ct M 27) 0 (pm_ct M 27 1)) 1 (pm_ct M 27 2)) 2 (pm_ct M 27 3)) 3 (pm_ct M 27 4)) 4 (pm_ct M 27 5)) 5 (pm_ct M 27 6)) 6 (pm_ct M 27 7)) 7 (pm_ct M 27 8))]) (M := M) lk_152_30 (lay7.ay (by decide) rfl) (by omega) (j := 7) (by omega) rfl ?_
    refine g_iinc (ls' := [(2, ((1 : Nat) : Int)), (0, z), (0, 9)]) lk_152_31 rfl rfl rfl ?_
    refine g_goto (t := 11) lk_152_34 rfl ?_
    refine g_iload_n lk_152_11 rfl ?_
    refine g_bipush lk_152_12 ?_
    refine g_icmp (t := 37) lk_152_14 rfl (by first | (unfold pm_inI; omega) | exact pm_and_in _ _ | exact pm_shr_in _ _ | exact pm_or_in _ _ | exact pm_xor_in _ _ | exact pm_shl_in _ _ | exact pm_cmp_in _ _ | exact pm_b8_in _ | (unfold pm_inI; split <;> omega)) (by first | (unfold pm_inI; omega) | exact pm_and_in _ _ | exact pm_shr_in _ _ | exact pm_or_in _ _ | exact pm_xor_in _ _ | exact pm_shl_in _ _ | exact pm_cmp_in _ _ | exact pm_b8_in _ | (unfold pm_inI; split <;> omega)) (fun h => absurd h (show ¬ ((12 : Int) ≤ (9 : Int)) by omega)) (fun _ => ?_)
    refine g_aload_n lk_152_17 rfl ?_
    refine g_getfield lk_152_18 rfl (lay8.on (by decide) rfl) (v := ((27 : Nat) : Int)) (lay8.rf rfl) ?_
    refine g_iload_n lk_152_21 rfl ?_
    refine g_iconst lk_152_22 ?_
    refine g_isub lk_152_23 ?_
    refine g_top (z := (9 - 1)) (z' := 8) (by omega) ?_
    refine g_aload_n lk_152_24 rfl ?_
    refine g_getfield lk_152_25 rfl (lay8.on (by decide) rfl) (v := ((27 : Nat) : Int)) (lay8.rf rfl) ?_
    refine g_iload_n lk_152_28 rfl ?_
    refine m_iaload (u := [(27, pm_upd (pm_upd (pm_upd (pm_upd (pm_upd (pm_upd (pm_upd (pm_upd (pm_ct M 27) 0 (pm_ct M 27 1)) 1 (pm_ct M 27 2)) 2 (pm_ct M 27 3)) 3 (pm_ct M 27 4)) 4 (pm_ct M 27 5)) 5 (pm_ct M 27 6)) 6 (pm_ct M 27 7)) 7 (pm_ct M 27 8))]) (M := M) lk_152_29 (lay8.ay (by decide) rfl) (by omega) (j := 9) (by omega) (v := pm_ct M 27 9) rfl ?_
    have lay9 : Lay (Mu [(27, pm_upd (pm_upd (pm_upd (pm_upd (pm_upd (pm_upd (pm_upd (pm_upd (pm_upd (pm_ct M 27) 0 (pm_ct M 27 1)) 1 (pm_ct M 27 2)) 2 (pm_ct M 27 3)) 3 (pm_ct M 27 4)) 4 (pm_ct M 27 5)) 5 (pm_ct M 27 6)) 6 (pm_ct M 27 7)) 7 (pm_ct M 27 8)) 8 (pm_ct M 27 9))] M) := lay8.muA (l := [(27, pm_upd (pm_upd (pm_upd (pm_upd (pm_upd (pm_upd (pm_upd (pm_upd (pm_ct M 27) 0 (pm_ct M 27 1)) 1 (pm_ct M 27 2)) 2 (pm_ct M 27 3)) 3 (pm_ct M 27 4)) 4 (pm_ct M 27 5)) 5 (pm_ct M 27 6)) 6 (pm_ct M 27 7)) 7 (pm_ct M 27 8))]) (a := 27) (f := pm_upd (pm_upd (pm_upd (pm_upd (pm_upd (pm_upd (pm_upd (pm_upd (pm_upd (pm_ct M 27) 0 (pm_ct M 27 1)) 1 (pm_ct M 27 2)) 2 (pm_ct M 27 3)) 3 (pm_ct M 27 4)) 4 (pm_ct M 27 5)) 5 (pm_ct M 27 6)) 6 (pm_ct M 27 7)) 7 (pm_ct M 27 8)) 8 (pm_ct M 27 9)) rfl rfl
    refine m_iastore (u := [(27, pm_upd (pm_upd (pm_upd (pm_upd (pm_upd (pm_upd (pm_upd (pm_upd (pm_ct M 27) 0 (pm_ct M 27 1)) 1 (pm_ct M 27 2)) 2 (pm_ct M 27 3)) 3 (pm_ct M 27 4)) 4 (pm_ct M 27 5)) 5 (pm_ct M 27 6)) 6 (pm_ct M 27 7)) 7 (pm_ct M 27 8))]) (u' := [(27, pm_upd (pm_upd (pm_upd (pm_upd (pm_upd (pm_upd (pm_upd (pm_upd (pm_upd (pm_ct M 27) 0 (pm_ct M 27 1)) 1 (pm_ct M 27 2)) 2 (pm_ct M 27 3)) 3 (pm_ct M 27 4)) 4 (pm_ct M 27 5)) 5 (pm_ct M 27 6)) 6 (pm_ct M 27 7)) 7 (pm_ct M 27 8)) 8 (pm_ct M 27 9))]) (M := M) lk_152_30 (lay8.ay (by decide) rfl) (by omega) (j := 8) (by omega) rfl ?_
    refine g_iinc (ls' := [(2, ((1 : Nat) : Int)), (0, z), (0, 10)]) lk_152_31 rfl rfl rfl ?_
    refine g_goto (t := 11) lk_152_34 rfl ?_
    refine g_iload_n lk_152_11 rfl ?_
    refine g_bipush lk_152_12 ?_
    refine g_icmp (t := 37) lk_152_14 rfl (by first | (unfold pm_inI; omega) | exact pm_and_in _ _ | exact pm_shr_in _ _ | exact pm_or_in _ _ | exact pm_xor_in _ _ | exact pm_shl_in _ _ | exact pm_cmp_in _ _ | exact pm_b8_in _ | (unfold pm_inI; split <;> omega)) (by first | (unfold pm_inI; omega) | exact pm_and_in _ _ | exact pm_shr_in _ _ | exact pm_or_in _ _ | exact pm_xor_in _ _ | exact pm_shl_in _ _ | exact pm_cmp_in _ _ | exact pm_b8_in _ | (unfold pm_inI; split <;> omega)) (fun h => absurd h (show ¬ ((12 : Int) ≤ (10 : Int)) by omega)) (fun _ => ?_)
    refine g_aload_n lk_152_17 rfl ?_
    refine g_getfield lk_152_18 rfl (lay9.on (by decide) rfl) (v := ((27 : Nat) : Int)) (lay9.rf rfl) ?_
    refine g_iload_n lk_152_21 rfl ?_
    refine g_iconst lk_152_22 ?_
    refine g_isub lk_152_23 ?_
    refine g_top (z := (10 - 1)) (z' := 9) (by omega) ?_
    refine g_aload_n lk_152_24 rfl ?_
    refine g_getfield lk_152_25 rfl (lay9.on (by decide) rfl) (v := ((27 : Nat) : Int)) (lay9.rf rfl) ?_
    refine g_iload_n lk_152_28 rfl ?_
    refine m_iaload (u := [(27, pm_upd (pm_upd (pm_upd (pm_upd (pm_upd (pm_upd (pm_upd (pm_upd (pm_upd (pm_ct M 27) 0 (pm_ct M 27 1)) 1 (pm_ct M 27 2)) 2 (pm_ct M 27 3)) 3 (pm_ct M 27 4)) 4 (pm_ct M 27 5)) 5 (pm_ct M 27 6)) 6 (pm_ct M 27 7)) 7 (pm_ct M 27 8)) 8 (pm_ct M 27 9))]) (M := M) lk_152_29 (lay9.ay (by decide) rfl) (by omega) (j := 10) (by omega) (v := pm_ct M 27 10) rfl ?_
    have lay10 : Lay (Mu [(27, pm_upd (pm_upd (pm_upd (pm_upd (pm_upd (pm_upd (pm_upd (pm_upd (pm_upd (pm_upd (pm_ct M 27) 0 (pm_ct M 27 1)) 1 (pm_ct M 27 2)) 2 (pm_ct M 27 3)) 3 (pm_ct M 27 4)) 4 (pm_ct M 27 5)) 5 (pm_ct M 27 6)) 6 (pm_ct M 27 7)) 7 (pm_ct M 27 8)) 8 (pm_ct M 27 9)) 9 (pm_ct M 27 10))] M) := lay9.muA (l := [(27, pm_upd (pm_upd (pm_upd (pm_upd (pm_upd (pm_upd (pm_upd (pm_upd (pm_upd (pm_ct M 27) 0 (pm_ct M 27 1)) 1 (pm_ct M 27 2)) 2 (pm_ct M 27 3)) 3 (pm_ct M 27 4)) 4 (pm_ct M 27 5)) 5 (pm_ct M 27 6)) 6 (pm_ct M 27 7)) 7 (pm_ct M 27 8)) 8 (pm_ct M 27 9))]) (a := 27) (f := pm_upd (pm_upd (pm_upd (pm_upd (pm_upd (pm_upd (pm_upd (pm_upd (pm_upd (pm_upd (pm_ct M 27) 0 (pm_ct M 27 1)) 1 (pm_ct M 27 2)) 2 (pm_ct M 27 3)) 3 (pm_ct M 27 4)) 4 (pm_ct M 27 5)) 5 (pm_ct M 27 6)) 6 (pm_ct M 27 7)) 7 (pm_ct M 27 8)) 8 (pm_ct M 27 9)) 9 (pm_ct M 27 10)) rfl rfl
    refine m_iastore (u := [(27, pm_upd (pm_upd (pm_upd (pm_upd (pm_upd (pm_upd (pm_upd (pm_upd (pm_upd (pm_ct M 27) 0 (pm_ct M 27 1)) 1 (pm_ct M 27 2)) 2 (pm_ct M 27 3)) 3 (pm_ct M 27 4)) 4 (pm_ct M 27 5)) 5 (pm_ct M 27 6)) 6 (pm_ct M 27 7)) 7 (pm_ct M 27 8)) 8 (pm_ct M 27 9))]) (u' := [(27, pm_upd (pm_upd (pm_upd (pm_upd (pm_upd (pm_upd (pm_upd (pm_upd (pm_upd (pm_upd (pm_ct M 27) 0 (pm_ct M 27 1)) 1 (pm_ct M 27 2)) 2 (pm_ct M 27 3)) 3 (pm_ct M 27 4)) 4 (pm_ct M 27 5)) 5 (pm_ct M 27 6)) 6 (pm_ct M 27 7)) 7 (pm_ct M 27 8)) 8 (pm_ct M 27 9)) 9 (pm_ct M 27 10))]) (M := M) lk_152_30 (lay9.ay (by decide) rfl) (by omega) (j := 9) (by omega) rfl ?_
    refine g_iinc (ls' := [(2, ((1 : Nat) : Int)), (0, z), (0, 11)]) lk_152_31 rfl rfl rfl ?_
    refine g_goto (t := 11) lk_152_34 rfl ?_
    refine g_iload_n lk_152_11 rfl ?_
    refine g_bipush lk_152_12 ?_
    refine g_icmp (t := 37) lk_152_14 rfl (by first | (unfold pm_inI; omega) | exact pm_and_in _ _ | exact pm_shr_in _ _ | exact pm_or_in _ _ | exact pm_xor_in _ _ | exact pm_shl_in _ _ | exact pm_cmp_in _ _ | exact pm_b8_in _ | (unfold pm_inI; split <;> omega)) (by first | (unfold pm_inI; omega) | exact pm_and_in _ _ | exact pm_shr_in _ _ | exact pm_or_in _ _ | exact pm_xor_in _ _ | exact pm_shl_in _ _ | exact pm_cmp_in _ _ | exact pm_b8_in _ | (unfold pm_inI; split <;> omega)) (fun h => absurd h (show ¬ ((12 : Int) ≤ (11 : Int)) by omega)) (fun _ => ?_)
    refine g_aload_n lk_152_17 rfl ?_
    refine g_getfield lk_152_18 rfl (lay10.on (by decide) rfl) (v := ((27 : Nat) : Int)) (lay10.rf rfl) ?_
    refine g_iload_n lk_152_21 rfl ?_
    refine g_iconst lk_152_22 ?_
    refine g_isub lk_152_23 ?_
    refine g_top (z := (11 - 1)) (z' := 10) (by omega) ?_
    refine g_aload_n lk_152_24 rfl ?_
    refine g_getfield lk_152_25 rfl (lay10.on (by decide) rfl) (v := ((27 : Nat) : Int)) (lay10.rf rfl) ?_
    refine g_iload_n lk_152_28 rfl ?_
    refine m_iaload (u := [(27, pm_upd (pm_upd (pm_upd (pm_upd (pm_upd (pm_upd (pm_upd (pm_upd (pm_upd (pm_upd (pm_ct M 27) 0 (pm_ct M 27 1)) 1 (pm_ct M 27 2)) 2 (pm_ct M 27 3)) 3 (pm_ct M 27 4)) 4 (pm_ct M 27 5)) 5 (pm_ct M 27 6)) 6 (pm_ct M 27 7)) 7 (pm_ct M 27 8)) 8 (pm_ct M 27 9)) 9 (pm_ct M 27 10))]) (M := M) lk_152_29 (lay10.ay (by decide) rfl) (by omega) (j := 11) (by omega) (v := pm_ct M 27 11) rfl ?_
    have lay11 : Lay (Mu [(27, pm_upd (pm_upd (pm_upd (pm_upd (pm_upd (pm_upd (pm_upd (pm_upd (pm_upd (pm_upd (pm_upd (pm_ct M 27) 0 (pm_ct M 27 1)) 1 (pm_ct M 27 2)) 2 (pm_ct M 27 3)) 3 (pm_ct M 27 4)) 4 (pm_ct M 27 5)) 5 (pm_ct M 27 6)) 6 (pm_ct M 27 7)) 7 (pm_ct M 27 8)) 8 (pm_ct M 27 9)) 9 (pm_ct M 27 10)) 10 (pm_ct M 27 11))] M) := lay10.muA (l := [(27, pm_upd (pm_upd (pm_upd (pm_upd (pm_upd (pm_upd (pm_upd (pm_upd (pm_upd (pm_upd (pm_ct M 27) 0 (pm_ct M 27 1)) 1 (pm_ct M 27 2)) 2 (pm_ct M 27 3)) 3 (pm_ct M 27 4)) 4 (pm_ct M 27 5)) 5 (pm_ct M 27 6)) 6 (pm_ct M 27 7)) 7 (pm_ct M 27 8)) 8 (pm_ct M 27 9)) 9 (pm_ct M 27 10))]) (a := 27) (f := pm_upd (pm_upd (pm_upd (pm_upd (pm_upd (pm_upd (pm_upd (pm_upd (pm_upd (pm_upd (pm_upd (pm_ct M 27) 0 (pm_ct M 27 1)) 1 (pm_ct M 27 2)) 2 (pm_ct M 27 3)) 3 (pm_ct M 27 4)) 4 (pm_ct M 27 5)) 5 (pm_ct M 27 6)) 6 (pm_ct M 27 7)) 7 (pm_ct M 27 8)) 8 (pm_ct M 27 9)) 9 (pm_ct M 27 10)) 10 (pm_ct M 27 11)) rfl rfl
    refine m_iastore (u := [(27, pm_upd (pm_upd (pm_upd (pm_upd (pm_upd (pm_upd (pm_upd (pm_upd (pm_upd (pm_upd (pm_ct M 27) 0 (pm_ct M 27 1)) 1 (pm_ct M 27 2)) 2 (pm_ct M 27 3)) 3 (pm_ct M 27 4)) 4 (pm_ct M 27 5)) 5 (pm_ct M 27 6)) 6 (pm_ct M 27 7)) 7 (pm_ct M 27 8)) 8 (pm_ct M 27 9)) 9 (pm_ct M 27 10))]) (u' := [(27, pm_upd (pm_upd (pm_upd (pm_upd (pm_upd (pm_upd (pm_upd (pm_upd (pm_upd (pm_upd (pm_upd (pm_ct M 27) 0 (pm_ct M 27 1)) 1 (pm_ct M 27 2)) 2 (pm_ct M 27 3)) 3 (pm_ct M 27 4)) 4 (pm_ct M 27 5)) 5 (pm_ct M 27 6)) 6 (pm_ct M 27 7)) 7 (pm_ct M 27 8)) 8 (pm_ct M 27 9)) 9 (pm_ct M 27 10)) 10 (pm_ct M 27 11))]) (M := M) lk_152_30 (lay10.ay (by decide) rfl) (by omega) (j := 10) (by omega) rfl ?_
    refine g_iinc (ls' := [(2, ((1 : Nat) : Int)), (0, z), (0, 12)]) lk_152_31 rfl rfl rfl ?_
    refine g_goto (t := 11) lk_152_34 rfl ?_
    refine g_iload_n lk_152_11 rfl ?_
    refine g_bipush lk_152_12 ?_
    refine g_icmp (t := 37) lk_152_14 rfl (by first | (unfold pm_inI; omega) | exact pm_and_in _ _ | exact pm_shr_in _ _ | exact pm_or_in _ _ | exact pm_xor_in _ _ | exact pm_shl_in _ _ | exact pm_cmp_in _ _ | exact pm_b8_in _ | (unfold pm_inI; split <;> omega)) (by first | (unfold pm_inI; omega) | exact pm_and_in _ _ | exact pm_shr_in _ _ | exact pm_or_in _ _ | exact pm_xor_in _ _ | exact pm_shl_in _ _ | exact pm_cmp_in _ _ | exact pm_b8_in _ | (unfold pm_inI; split <;> omega)) (fun _ => ?_) (fun h => absurd (show (12 : Int) ≤ (12 : Int) by omega) h)
    refine g_aload_n lk_152_37 rfl ?_
    refine g_bipush lk_152_38 ?_
    have lay12 : Lay (Mu [(27, pm_upd (pm_upd (pm_upd (pm_upd (pm_upd (pm_upd (pm_upd (pm_upd (pm_upd (pm_upd (pm_upd (pm_ct M 27) 0 (pm_ct M 27 1)) 1 (pm_ct M 27 2)) 2 (pm_ct M 27 3)) 3 (pm_ct M 27 4)) 4 (pm_ct M 27 5)) 5 (pm_ct M 27 6)) 6 (pm_ct M 27 7)) 7 (pm_ct M 27 8)) 8 (pm_ct M 27 9)) 9 (pm_ct M 27 10)) 10 (pm_ct M 27 11)), (1, pm_upd (pm_ct M 1) 12 11)] M) := lay11.muF (l := [(27, pm_upd (pm_upd (pm_upd (pm_upd (pm_upd (pm_upd (pm_upd (pm_upd (pm_upd (pm_upd (pm_upd (pm_ct M 27) 0 (pm_ct M 27 1)) 1 (pm_ct M 27 2)) 2 (pm_ct M 27 3)) 3 (pm_ct M 27 4)) 4 (pm_ct M 27 5)) 5 (pm_ct M 27 6)) 6 (pm_ct M 27 7)) 7 (pm_ct M 27 8)) 8 (pm_ct M 27 9)) 9 (pm_ct M 27 10)) 10 (pm_ct M 27 11))]) (a := 1) (k := 12) (z := 11) rfl rfl
    refine m_putfield (u := [(27, pm_upd (pm_upd (pm_upd (pm_upd (pm_upd (pm_upd (pm_upd (pm_upd (pm_upd (pm_upd (pm_upd (pm_ct M 27) 0 (pm_ct M 27 1)) 1 (pm_ct M 27 2)) 2 (pm_ct M 27 3)) 3 (pm_ct M 27 4)) 4 (pm_ct M 27 5)) 5 (pm_ct M 27 6)) 6 (pm_ct M 27 7)) 7 (pm_ct M 27 8)) 8 (pm_ct M 27 9)) 9 (pm_ct M 27 10)) 10 (pm_ct M 27 11))]) (u' := [(27, pm_upd (pm_upd (pm_upd (pm_upd (pm_upd (pm_upd (pm_upd (pm_upd (pm_upd (pm_upd (pm_upd (pm_ct M 27) 0 (pm_ct M 27 1)) 1 (pm_ct M 27 2)) 2 (pm_ct M 27 3)) 3 (pm_ct M 27 4)) 4 (pm_ct M 27 5)) 5 (pm_ct M 27 6)) 6 (pm_ct M 27 7)) 7 (pm_ct M 27 8)) 8 (pm_ct M 27 9)) 9 (pm_ct M 27 10)) 10 (pm_ct M 27 11)), (1, pm_upd (pm_ct M 1) 12 11)]) (M := M) lk_152_40 rfl (lay11.on (by decide) rfl) (fun h => absurd h (by decide)) rfl ?_
    refine g_aload_n lk_152_43 rfl ?_
    refine g_getfield lk_152_44 rfl (lay12.on (by decide) rfl) (v := ((27 : Nat) : Int)) (lay12.rf rfl) ?_
    refine g_aload_n lk_152_47 rfl ?_
    refine m_getfield (u := [(27, pm_upd (pm_upd (pm_upd (pm_upd (pm_upd (pm_upd (pm_upd (pm_upd (pm_upd (pm_upd (pm_upd (pm_ct M 27) 0 (pm_ct M 27 1)) 1 (pm_ct M 27 2)) 2 (pm_ct M 27 3)) 3 (pm_ct M 27 4)) 4 (pm_ct M 27 5)) 5 (pm_ct M 27 6)) 6 (pm_ct M 27 7)) 7 (pm_ct M 27 8)) 8 (pm_ct M 27 9)) 9 (pm_ct M 27 10)) 10 (pm_ct M 27 11)), (1, pm_upd (pm_ct M 1) 12 11)]) (M := M) lk_152_48 rfl (lay12.on (by decide) rfl) (v := 11) rfl ?_
    refine g_iload_n lk_152_51 rfl ?_
    have lay13 : Lay (Mu [(27, pm_upd (pm_upd (pm_upd (pm_upd (pm_upd (pm_upd (pm_upd (pm_upd (pm_upd (pm_upd (pm_upd (pm_upd (pm_ct M 27) 0 (pm_ct M 27 1)) 1 (pm_ct M 27 2)) 2 (pm_ct M 27 3)) 3 (pm_ct M 27 4)) 4 (pm_ct M 27 5)) 5 (pm_ct M 27 6)) 6 (pm_ct M 27 7)) 7 (pm_ct M 27 8)) 8 (pm_ct M 27 9)) 9 (pm_ct M 27 10)) 10 (pm_ct M 27 11)) 11 z), (1, pm_upd (pm_ct M 1) 12 11)] M) := lay12.muA (l := [(27, pm_upd (pm_upd (pm_upd (pm_upd (pm_upd (pm_upd (pm_upd (pm_upd (pm_upd (pm_upd (pm_upd (pm_ct M 27) 0 (pm_ct M 27 1)) 1 (pm_ct M 27 2)) 2 (pm_ct M 27 3)) 3 (pm_ct M 27 4)) 4 (pm_ct M 27 5)) 5 (pm_ct M 27 6)) 6 (pm_ct M 27 7)) 7 (pm_ct M 27 8)) 8 (pm_ct M 27 9)) 9 (pm_ct M 27 10)) 10 (pm_ct M 27 11)), (1, pm_upd (pm_ct M 1) 12 11)]) (a := 27) (f := pm_upd (pm_upd (pm_upd (pm_upd (pm_upd (pm_upd (pm_upd (pm_upd (pm_upd (pm_upd (pm_upd (pm_upd (pm_ct M 27) 0 (pm_ct M 27 1)) 1 (pm_ct M 27 2)) 2 (pm_ct M 27 3)) 3 (pm_ct M 27 4)) 4 (pm_ct M 27 5)) 5 (pm_ct M 27 6)) 6 (pm_ct M 27 7)) 7 (pm_ct M 27 8)) 8 (pm_ct M 27 9)) 9 (pm_ct M 27 10)) 10 (pm_ct M 27 11)) 11 z) rfl rfl
    refine m_iastore (u := [(27, pm_upd (pm_upd (pm_upd (pm_upd (pm_upd (pm_upd (pm_upd (pm_upd (pm_upd (pm_upd (pm_upd (pm_ct M 27) 0 (pm_ct M 27 1)) 1 (pm_ct M 27 2)) 2 (pm_ct M 27 3)) 3 (pm_ct M 27 4)) 4 (pm_ct M 27 5)) 5 (pm_ct M 27 6)) 6 (pm_ct M 27 7)) 7 (pm_ct M 27 8)) 8 (pm_ct M 27 9)) 9 (pm_ct M 27 10)) 10 (pm_ct M 27 11)), (1, pm_upd (pm_ct M 1) 12 11)]) (u' := [(27, pm_upd (pm_upd (pm_upd (pm_upd (pm_upd (pm_upd (pm_upd (pm_upd (pm_upd (pm_upd (pm_upd (pm_upd (pm_ct M 27) 0 (pm_ct M 27 1)) 1 (pm_ct M 27 2)) 2 (pm_ct M 27 3)) 3 (pm_ct M 27 4)) 4 (pm_ct M 27 5)) 5 (pm_ct M 27 6)) 6 (pm_ct M 27 7)) 7 (pm_ct M 27 8)) 8 (pm_ct M 27 9)) 9 (pm_ct M 27 10)) 10 (pm_ct M 27 11)) 11 z), (1, pm_upd (pm_ct M 1) 12 11)]) (M := M) lk_152_52 (lay12.ay (by decide) rfl) (by omega) (j := 11) (by omega) rfl ?_
    refine g_aload_n lk_152_53 rfl ?_
    refine g_dup lk_152_54 rfl ?_
    refine m_getfield (u := [(27, pm_upd (pm_upd (pm_upd (pm_upd (pm_upd (pm_upd (pm_upd (pm_upd (pm_upd (pm_upd (pm_upd (pm_upd (pm_ct M 27) 0 (pm_ct M 27 1)) 1 (pm_ct M 27 2)) 2 (pm_ct M 27 3)) 3 (pm_ct M 27 4)) 4 (pm_ct M 27 5)) 5 (pm_ct M 27 6)) 6 (pm_ct M 27 7)) 7 (pm_ct M 27 8)) 8 (pm_ct M 27 9)) 9 (pm_ct M 27 10)) 10 (pm_ct M 27 11)) 11 z), (1, pm_upd (pm_ct M 1) 12 11)]) (M := M) lk_152_55 rfl (lay13.on (by decide) rfl) (v := 11) rfl ?_
    refine g_iconst lk_152_58 ?_
    refine g_iadd lk_152_59 ?_
    refine g_top (z := (11 + 1)) (z' := 12) (by omega) ?_
    have lay14 : Lay (Mu [(27, pm_upd (pm_upd (pm_upd (pm_upd (pm_upd (pm_upd (pm_upd (pm_upd (pm_upd (pm_upd (pm_upd (pm_upd (pm_ct M 27) 0 (pm_ct M 27 1)) 1 (pm_ct M 27 2)) 2 (pm_ct M 27 3)) 3 (pm_ct M 27 4)) 4 (pm_ct M 27 5)) 5 (pm_ct M 27 6)) 6 (pm_ct M 27 7)) 7 (pm_ct M 27 8)) 8 (pm_ct M 27 9)) 9 (pm_ct M 27 10)) 10 (pm_ct M 27 11)) 11 z), (1, pm_upd (pm_ct M 1) 12 12)] M) := lay13.muF (l := [(27, pm_upd (pm_upd (pm_upd (pm_upd (pm_upd (pm_upd (pm_upd (pm_upd (pm_upd (pm_upd (pm_upd (pm_upd (pm_ct M 27) 0 (pm_ct M 27 1)) 1 (pm_ct M 27 2)) 2 (pm_ct M 27 3)) 3 (pm_ct M 27 4)) 4 (pm_ct M 27 5)) 5 (pm_ct M 27 6)) 6 (pm_ct M 27 7)) 7 (pm_ct M 27 8)) 8 (pm_ct M 27 9)) 9 (pm_ct M 27 10)) 10 (pm_ct M 27 11)) 11 z), (1, pm_upd (pm_ct M 1) 12 11)]) (a := 1) (k := 12) (z := 12) rfl (congrArg (fun F => [(27, pm_upd (pm_upd (pm_upd (pm_upd (pm_upd (pm_upd (pm_upd (pm_upd (pm_upd (pm_upd (pm_upd (pm_upd (pm_ct M 27) 0 (pm_ct M 27 1)) 1 (pm_ct M 27 2)) 2 (pm_ct M 27 3)) 3 (pm_ct M 27 4)) 4 (pm_ct M 27 5)) 5 (pm_ct M 27 6)) 6 (pm_ct M 27 7)) 7 (pm_ct M 27 8)) 8 (pm_ct M 27 9)) 9 (pm_ct M 27 10)) 10 (pm_ct M 27 11)) 11 z), (1, F)]) (pm_upd_upd _ _ _ _))
    refine m_putfield (u := [(27, pm_upd (pm_upd (pm_upd (pm_upd (pm_upd (pm_upd (pm_upd (pm_upd (pm_upd (pm_upd (pm_upd (pm_upd (pm_ct M 27) 0 (pm_ct M 27 1)) 1 (pm_ct M 27 2)) 2 (pm_ct M 27 3)) 3 (pm_ct M 27 4)) 4 (pm_ct M 27 5)) 5 (pm_ct M 27 6)) 6 (pm_ct M 27 7)) 7 (pm_ct M 27 8)) 8 (pm_ct M 27 9)) 9 (pm_ct M 27 10)) 10 (pm_ct M 27 11)) 11 z), (1, pm_upd (pm_ct M 1) 12 11)]) (u' := [(27, pm_upd (pm_upd (pm_upd (pm_upd (pm_upd (pm_upd (pm_upd (pm_upd (pm_upd (pm_upd (pm_upd (pm_upd (pm_ct M 27) 0 (pm_ct M 27 1)) 1 (pm_ct M 27 2)) 2 (pm_ct M 27 3)) 3 (pm_ct M 27 4)) 4 (pm_ct M 27 5)) 5 (pm_ct M 27 6)) 6 (pm_ct M 27 7)) 7 (pm_ct M 27 8)) 8 (pm_ct M 27 9)) 9 (pm_ct M 27 10)) 10 (pm_ct M 27 11)) 11 z), (1, pm_upd (pm_ct M 1) 12 12)]) (M := M) lk_152_60 rfl (lay13.on (by decide) rfl) (fun h => absurd h (by decide)) (congrArg (fun F => [(27, pm_upd (pm_upd (pm_upd (pm_upd (pm_upd (pm_upd (pm_upd (pm_upd (pm_upd (pm_upd (pm_upd (pm_upd (pm_ct M 27) 0 (pm_ct M 27 1)) 1 (pm_ct M 27 2)) 2 (pm_ct M 27 3)) 3 (pm_ct M 27 4)) 4 (pm_ct M 27 5)) 5 (pm_ct M 27 6)) 6 (pm_ct M 27 7)) 7 (pm_ct M 27 8)) 8 (pm_ct M 27 9)) 9 (pm_ct M 27 10)) 10 (pm_ct M 27 11)) 11 z), (1, F)]) (pm_upd_upd _ _ _ _)) ?_
    refine g_return lk_152_63 ?_
    refine ⟨rfl, lay14, Fr.mu _ _ rfl, fun k hk => by rw [Mu_ct]; exact pm_upd_ne hk, ?_, ?_, fun i hi => ?_⟩
    · unfold kN; rw [if_pos e]; omega
    · unfold kN; rw [if_pos e, Mu_ct]; rfl
    · unfold kN at hi
      rw [if_pos e] at hi
      rw [Mu_ct]
      unfold kA
      rw [if_pos e]
      rcases (by omega : i = 0 ∨ i = 1 ∨ i = 2 ∨ i = 3 ∨ i = 4 ∨ i = 5 ∨ i = 6 ∨ i = 7 ∨ i = 8 ∨ i = 9 ∨ i = 10 ∨ i = 11) with q | q | q | q | q | q | q | q | q | q | q | q
      · rw [q]; exact r1
      · rw [q]; exact r2
      · rw [q]; exact r3
      · rw [q]; exact r4
      · rw [q]; exact r5
      · rw [q]; exact r6
      · rw [q]; exact r7
      · rw [q]; exact r8
      · rw [q]; exact r9
      · rw [q]; exact r10
      · rw [q]; exact r11
      · rw [q]; rfl
  · obtain ⟨m, hm⟩ : ∃ m, m = n := ⟨_, rfl⟩
    refine g_aload_n lk_152_0 rfl ?_
    refine m_getfield (u := []) (M := M) lk_152_1 rfl (lay0.on (by decide) rfl) (v := (n : Int)) h12 ?_
    refine g_bipush lk_152_4 ?_
    refine g_icmp (t := 43) lk_152_6 rfl (by first | (unfold pm_inI; omega) | exact pm_and_in _ _ | exact pm_shr_in _ _ | exact pm_or_in _ _ | exact pm_xor_in _ _ | exact pm_shl_in _ _ | exact pm_cmp_in _ _ | exact pm_b8_in _ | (unfold pm_inI; split <;> omega)) (by first | (unfold pm_inI; omega) | exact pm_and_in _ _ | exact pm_shr_in _ _ | exact pm_or_in _ _ | exact pm_xor_in _ _ | exact pm_shl_in _ _ | exact pm_cmp_in _ _ | exact pm_b8_in _ | (unfold pm_inI; split <;> omega)) (fun h1 => ?_) (fun h1 => ?_)
    · replace h1 : (n : Int) < 12 := h1
      refine g_aload_n lk_152_43 rfl ?_
      refine g_getfield lk_152_44 rfl (lay0.on (by decide) rfl) (v := ((27 : Nat) : Int)) (lay0.rf rfl) ?_
      refine g_aload_n lk_152_47 rfl ?_
      refine m_getfield (u := []) (M := M) lk_152_48 rfl (lay0.on (by decide) rfl) (v := (n : Int)) h12 ?_
      refine g_iload_n lk_152_51 rfl ?_
      have lay2 : Lay (Mu [(27, pm_upd (pm_ct M 27) n z)] M) := lay0.muA (l := []) (a := 27) (f := pm_upd (pm_ct M 27) n z) rfl rfl
      refine m_iastore (u := []) (u' := [(27, pm_upd (pm_ct M 27) n z)]) (M := M) lk_152_52 (lay0.ay (by decide) rfl) (by omega) (j := n) (by omega) rfl ?_
      refine g_aload_n lk_152_53 rfl ?_
      refine g_dup lk_152_54 rfl ?_
      refine m_getfield (u := [(27, pm_upd (pm_ct M 27) n z)]) (M := M) lk_152_55 rfl (lay2.on (by decide) rfl) (v := (n : Int)) h12 ?_
      refine g_iconst lk_152_58 ?_
      refine g_iadd lk_152_59 ?_
      have lay3 : Lay (Mu [(27, pm_upd (pm_ct M 27) n z), (1, pm_upd (pm_ct M 1) 12 ((n : Int) + 1))] M) := lay2.muF (l := [(27, pm_upd (pm_ct M 27) n z)]) (a := 1) (k := 12) (z := ((n : Int) + 1)) rfl rfl
      refine m_putfield (u := [(27, pm_upd (pm_ct M 27) n z)]) (u' := [(27, pm_upd (pm_ct M 27) n z), (1, pm_upd (pm_ct M 1) 12 ((n : Int) + 1))]) (M := M) lk_152_60 rfl (lay2.on (by decide) rfl) (fun h => absurd h (by decide)) rfl ?_
      refine g_return lk_152_63 ?_
      refine ⟨rfl, lay3, Fr.mu _ _ rfl, fun k hk => by rw [Mu_ct]; exact pm_upd_ne hk, ?_, ?_, fun i hi => ?_⟩
      · unfold kN; rw [if_neg e]; omega
      · unfold kN; rw [if_neg e, Mu_ct]; rfl
      · unfold kN at hi
        rw [if_neg e] at hi
        rw [Mu_ct]
        show pm_upd (pm_ct M 27) n z i = kA n a z i
        unfold kA
        rw [if_neg e]
        by_cases q : i = n
        · rw [q, pm_upd_eq, if_pos rfl]
        · rw [pm_upd_ne q, if_neg q]; exact ha i (by omega)
    · replace h1 : ¬ ((n : Int) < 12) := h1
      omega
