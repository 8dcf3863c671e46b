/-! ===== Best: the tree told ===== -/
theorem xor_tab : ∀ r : Fin 64, ∀ p : Fin 64, Sb (p : Nat) (r : Nat) = true → pm_xor ((r : Nat) : Int) ((p : Nat) : Int) = (((r : Nat) - (p : Nat) : Nat) : Int) := by decide +kernel
theorem spC_sub {s q : Nat} (h : spC s q = true) : Sb q s = true := by unfold spC at h; rw [Bool.and_eq_true] at h; exact h.1
theorem nd_get {L : List Nd} {x : Nd} {j : Nat} {y : Nd} (h : (L ++ [x])[j]? = some y) : (j < L.length ∧ L[j]? = some y) ∨ (j = L.length ∧ y = x) := by
  have h1 := (List.getElem?_eq_some_iff.mp h).1
  rw [List.length_append] at h1
  have e1 : [x].length = 1 := rfl
  by_cases hj : j < L.length
  · rw [List.getElem?_append_left hj] at h; exact Or.inl ⟨hj, h⟩
  · have e : j = L.length := by omega
    rw [e, List.getElem?_append_right (Nat.le_refl _), Nat.sub_self] at h
    refine Or.inr ⟨e, ?_⟩
    simpa using h.symm
theorem NdL.of {M N : pm_M} {a b c : Nat} {L : List Nd} (h : NdL M a b c L) (h1 : pm_ct N a = pm_ct M a) (h2 : pm_ct N b = pm_ct M b) (h3 : pm_ct N c = pm_ct M c) : NdL N a b c L := by
  unfold NdL; rw [h1, h2, h3]; exact h
theorem NdL.push {M N : pm_M} {a b c k x y : Nat} {z : Int} {L : List Nd} (h : NdL M a b c L) (hk : k = L.length) (h1 : pm_ct N a = pm_upd (pm_ct M a) k (x : Int)) (h2 : pm_ct N b = pm_upd (pm_ct M b) k (y : Int)) (h3 : pm_ct N c = pm_upd (pm_ct M c) k z) : NdL N a b c (L ++ [(x, y, z)]) := fun i w hw => by
  rw [h1, h2, h3]
  rcases nd_get hw with ⟨q1, q2⟩ | ⟨q1, q2⟩
  · rw [pm_upd_ne (by omega), pm_upd_ne (by omega), pm_upd_ne (by omega)]; exact h i w q2
  · rw [q1, ← hk, pm_upd_eq, pm_upd_eq, pm_upd_eq, q2]; exact ⟨rfl, rfl, rfl⟩
theorem NdL.put {M N : pm_M} {a b c k x y : Nat} {z z' : Int} {L G : List Nd} (h : NdL M a b c (L ++ [(x, y, z)] ++ G)) (hk : k = L.length) (h1 : pm_ct N a = pm_ct M a) (h2 : pm_ct N b = pm_ct M b) (h3 : pm_ct N c = pm_upd (pm_ct M c) k z') : NdL N a b c (L ++ [(x, y, z')] ++ G) := fun i w hw => by
  have ln : (L ++ [((x, y, z') : Nd)]).length = (L ++ [((x, y, z) : Nd)]).length := by rw [List.length_append, List.length_append]; rfl
  have lk : (L ++ [((x, y, z) : Nd)]).length = k + 1 := by rw [List.length_append, ← hk]; rfl
  rw [h1, h2, h3]
  by_cases e : i = k
  · have hz : (L ++ [((x, y, z) : Nd)] ++ G)[i]? = some (x, y, z) := by
      rw [List.append_assoc, e, hk, List.getElem?_append_right (Nat.le_refl _), Nat.sub_self]; rfl
    have hw' : w = (x, y, z') := by
      rw [List.append_assoc, e, hk, List.getElem?_append_right (Nat.le_refl _), Nat.sub_self] at hw
      have : some ((x, y, z') : Nd) = some w := hw
      exact (Option.some.inj this).symm
    have := h i _ hz
    rw [hw', e, pm_upd_eq]
    rw [e] at this
    exact ⟨this.1, this.2.1, rfl⟩
  · rw [pm_upd_ne e]
    refine h i w ?_
    by_cases q : i < k
    · rw [List.append_assoc, List.getElem?_append_left (by omega)] at hw ⊢
      exact hw
    · rw [List.getElem?_append_right (by rw [ln, lk]; omega), ln] at hw
      rw [List.getElem?_append_right (by rw [lk]; omega)]
      exact hw
theorem c_Nodes_add0 {d mc ms : Nat} {M : pm_M} (lay : Lay M) {k x y : Nat} (hk : pm_ct M 100 3 = (k : Int)) (k71 : k < 71) :
    pm_E d 36 [(2, ((100 : Nat) : Int)), (0, (x : Int)), (0, (y : Int))] M mc ms (fun ρ M' => ρ = some (0, (k : Int)) ∧ Lay M' ∧ Fr [100, 101, 102, 103] M M' ∧ pm_ct M' 100 3 = ((k + 1 : Nat) : Int) ∧ pm_ct M' 101 = pm_upd (pm_ct M 101) k (x : Int) ∧ pm_ct M' 102 = pm_upd (pm_ct M 102) k (y : Int) ∧ pm_ct M' 103 = pm_upd (pm_ct M 103) k (-1)) := by
  show Wp d 36 0 [(2, ((100 : Nat) : Int)), (0, (x : Int)), (0, (y : Int))] [] M mc ms _
  refine g_aload_n lk_36_0 rfl ?_
  refine m_getfield (u := []) (M := M) lk_36_1 rfl (lay.on (by decide) rfl) (v := (k : Int)) hk ?_
  refine g_aload_n lk_36_4 rfl ?_
  refine g_getfield lk_36_5 rfl (lay.on (by decide) rfl) (v := ((101 : Nat) : Int)) (lay.rf rfl) ?_
  refine g_arraylength (n := 71) lk_36_8 (by decide) (lay.ay (by decide) rfl) ?_
  refine g_icmp (t := 14) lk_36_9 rfl (by first | (unfold pm_inI; omega) | exact pm_and_in _ _ | exact pm_shr_in _ _ | exact pm_or_in _ _ | exact pm_xor_in _ _ | exact pm_shl_in _ _ | exact pm_cmp_in _ _ | exact pm_b8_in _ | (unfold pm_inI; split <;> omega)) (by first | (unfold pm_inI; omega) | exact pm_and_in _ _ | exact pm_shr_in _ _ | exact pm_or_in _ _ | exact pm_xor_in _ _ | exact pm_shl_in _ _ | exact pm_cmp_in _ _ | exact pm_b8_in _ | (unfold pm_inI; split <;> omega)) (fun h1 => ?_) (fun h1 => ?_)
  · replace h1 : (k : Int) < 71 := h1
    refine g_aload_n lk_36_14 rfl ?_
    refine g_getfield lk_36_15 rfl (lay.on (by decide) rfl) (v := ((101 : Nat) : Int)) (lay.rf rfl) ?_
    refine g_aload_n lk_36_18 rfl ?_
    refine m_getfield (u := []) (M := M) lk_36_19 rfl (lay.on (by decide) rfl) (v := (k : Int)) hk ?_
    refine g_iload_n lk_36_22 rfl ?_
    have lay2 : Lay (Mu [(101, pm_upd (pm_ct M 101) k (x : Int))] M) := lay.muA (l := []) (a := 101) (f := pm_upd (pm_ct M 101) k (x : Int)) rfl rfl
    refine m_iastore (u := []) (u' := [(101, pm_upd (pm_ct M 101) k (x : Int))]) (M := M) lk_36_23 (lay.ay (by decide) rfl) (by omega) (j := k) (by omega) rfl ?_
    refine g_aload_n lk_36_24 rfl ?_
    refine g_getfield lk_36_25 rfl (lay2.on (by decide) rfl) (v := ((102 : Nat) : Int)) (lay2.rf rfl) ?_
    refine g_aload_n lk_36_28 rfl ?_
    refine m_getfield (u := [(101, pm_upd (pm_ct M 101) k (x : Int))]) (M := M) lk_36_29 rfl (lay2.on (by decide) rfl) (v := (k : Int)) hk ?_
    refine g_iload_n lk_36_32 rfl ?_
    have lay3 : Lay (Mu [(101, pm_upd (pm_ct M 101) k (x : Int)), (102, pm_upd (pm_ct M 102) k (y : Int))] M) := lay2.muA (l := [(101, pm_upd (pm_ct M 101) k (x : Int))]) (a := 102) (f := pm_upd (pm_ct M 102) k (y : Int)) rfl rfl
    refine m_iastore (u := [(101, pm_upd (pm_ct M 101) k (x : Int))]) (u' := [(101, pm_upd (pm_ct M 101) k (x : Int)), (102, pm_upd (pm_ct M 102) k (y : Int))]) (M := M) lk_36_33 (lay2.ay (by decide) rfl) (by omega) (j := k) (by omega) rfl ?_
    refine g_aload_n lk_36_34 rfl ?_
    refine g_getfield lk_36_35 rfl (lay3.on (by decide) rfl) (v := ((103 : Nat) : Int)) (lay3.rf rfl) ?_
    refine g_aload_n lk_36_38 rfl ?_
    refine m_getfield (u := [(101, pm_upd (pm_ct M 101) k (x : Int)), (102, pm_upd (pm_ct M 102) k (y : Int))]) (M := M) lk_36_39 rfl (lay3.on (by decide) rfl) (v := (k : Int)) hk ?_
    refine g_iconst lk_36_42 ?_
    have lay4 : Lay (Mu [(101, pm_upd (pm_ct M 101) k (x : Int)), (102, pm_upd (pm_ct M 102) k (y : Int)), (103, pm_upd (pm_ct M 103) k (-1))] M) := lay3.muA (l := [(101, pm_upd (pm_ct M 101) k (x : Int)), (102, pm_upd (pm_ct M 102) k (y : Int))]) (a := 103) (f := pm_upd (pm_ct M 103) k (-1)) rfl rfl
    refine m_iastore (u := [(101, pm_upd (pm_ct M 101) k (x : Int)), (102, pm_upd (pm_ct M 102) k (y : Int))]) (u' := [(101, pm_upd (pm_ct M 101) k (x : Int)), (102, pm_upd (pm_ct M 102) k (y : Int)), (103, pm_upd (pm_ct M 103) k (-1))]) (M := M) lk_36_43 (lay3.ay (by decide) rfl) (by omega) (j := k) (by omega) rfl ?_
    refine g_aload_n lk_36_44 rfl ?_
    refine g_dup lk_36_45 rfl ?_
    refine m_getfield (u := [(101, pm_upd (pm_ct M 101) k (x : Int)), (102, pm_upd (pm_ct M 102) k (y : Int)), (103, pm_upd (pm_ct M 103) k (-1))]) (M := M) lk_36_46 rfl (lay4.on (by decide) rfl) (v := (k : Int)) hk ?_
    refine g_iconst lk_36_49 ?_
    refine g_iadd lk_36_50 ?_
    have lay5 : Lay (Mu [(101, pm_upd (pm_ct M 101) k (x : Int)), (102, pm_upd (pm_ct M 102) k (y : Int)), (103, pm_upd (pm_ct M 103) k (-1)), (100, pm_upd (pm_ct M 100) 3 ((k : Int) + 1))] M) := lay4.muF (l := [(101, pm_upd (pm_ct M 101) k (x : Int)), (102, pm_upd (pm_ct M 102) k (y : Int)), (103, pm_upd (pm_ct M 103) k (-1))]) (a := 100) (k := 3) (z := ((k : Int) + 1)) rfl rfl
    refine m_putfield (u := [(101, pm_upd (pm_ct M 101) k (x : Int)), (102, pm_upd (pm_ct M 102) k (y : Int)), (103, pm_upd (pm_ct M 103) k (-1))]) (u' := [(101, pm_upd (pm_ct M 101) k (x : Int)), (102, pm_upd (pm_ct M 102) k (y : Int)), (103, pm_upd (pm_ct M 103) k (-1)), (100, pm_upd (pm_ct M 100) 3 ((k : Int) + 1))]) (M := M) lk_36_51 rfl (lay4.on (by decide) rfl) (fun h => absurd h (by decide)) rfl ?_
    refine g_aload_n lk_36_54 rfl ?_
    refine m_getfield (u := [(101, pm_upd (pm_ct M 101) k (x : Int)), (102, pm_upd (pm_ct M 102) k (y : Int)), (103, pm_upd (pm_ct M 103) k (-1)), (100, pm_upd (pm_ct M 100) 3 ((k : Int) + 1))]) (M := M) lk_36_55 rfl (lay5.on (by decide) rfl) (v := ((k : Int) + 1)) rfl ?_
    refine g_iconst lk_36_58 ?_
    refine g_isub lk_36_59 ?_
    refine g_ireturn lk_36_60 (fun h => absurd h (by decide)) ?_
    refine ⟨?_, lay5, Fr.mu _ _ rfl, by rw [Mu_ct]; rfl, by rw [Mu_ct]; rfl, by rw [Mu_ct]; rfl, by rw [Mu_ct]; rfl⟩
    congr 2
    omega
  · replace h1 : ¬ ((k : Int) < 71) := h1
    refine g_iconst lk_36_12 ?_
    refine g_ireturn lk_36_13 (fun h => absurd h (by decide)) ?_
    omega
set_option maxHeartbeats 8000000 in
theorem c_Best_grow0 {T : Tab} (hT : TabOK T) : ∀ (n d mc ms rs cs dd : Nat) (M : pm_M) (L : List Nd) (s w : Nat), inT T rs cs → pop rs + pop cs ≤ n → dd + n ≤ 12 → Lay M → TbAt M 24 T → CA M T s 1 → CB M T 0 98 w 1 → s ≠ w → pm_ct M 100 3 = (L.length : Int) → NdL M 101 102 103 L → L.length + (gt T 0 n rs cs L.length).length ≤ 71 →
    pm_E (d + n + 3) 17 [(2, ((98 : Nat) : Int)), (0, (rs : Int)), (0, (cs : Int)), (0, (dd : Int))] M mc ms (fun ρ M' => ρ = none ∧ Lay M' ∧ Fr [44, 100, 101, 102, 103] M M' ∧ (∀ j, j ≠ 3 → pm_ct M' 44 j = pm_ct M 44 j) ∧ pm_ct M' 100 3 = ((L ++ gt T 0 n rs cs L.length).length : Int) ∧ NdL M' 101 102 103 (L ++ gt T 0 n rs cs L.length)) := by
  intro n
  induction n with
  | zero =>
    intro d mc ms rs cs dd M L s w hi hp
    obtain ⟨h1, h2⟩ := hi.r hT
    have popp : ∀ s : Fin 64, (s : Nat) ≠ 0 → 1 ≤ pop (s : Nat) := by decide +kernel
    have r1 : 1 ≤ pop rs := popp ⟨rs, h1⟩ (by have := hi.1; show rs ≠ 0; omega)
    omega
  | succ n ih =>
    intro d mc ms rs cs dd M L s w hi hp hdd lay hM hA hB hsw hct hL h71
    obtain ⟨Q, hQ⟩ : ∃ Q : pm_Q, Q = (fun ρ M' => ρ = none ∧ Lay M' ∧ Fr [44, 100, 101, 102, 103] M M' ∧ (∀ j, j ≠ 3 → pm_ct M' 44 j = pm_ct M 44 j) ∧ pm_ct M' 100 3 = ((L ++ gt T 0 (n + 1) rs cs L.length).length : Int) ∧ NdL M' 101 102 103 (L ++ gt T 0 (n + 1) rs cs L.length)) := ⟨_, rfl⟩
    rw [← hQ]
    obtain ⟨r64, c64⟩ := hi.r hT
    have nl := num_lt (T := T) hi.2.1 hi.2.2.2
    have r9 := hi.2.1
    have c9 := hi.2.2.2
    obtain ⟨hw, i4, i5, i2, _, nw, n4, hay, hf⟩ := id hB
    obtain ⟨hn, hwo⟩ := hf rfl
    obtain ⟨k, hk⟩ : ∃ k, k = L.length := ⟨_, rfl⟩
    rw [← hk] at hct h71 hQ
    have vl := vIn_lt T rs cs
    have m44 : ∀ {A B : pm_M}, Fr [44] A B → Fr [44, 100, 101, 102, 103] A B := fun h => h.mono (fun a q => by simp at q; simp [q])
    have mN : ∀ {A B : pm_M}, Fr [100, 101, 102, 103] A B → Fr [44, 100, 101, 102, 103] A B := fun h => h.mono (fun a q => by simp at q; simp; omega)
    have nn : ∀ a, (a == 45 || a == 49 || a == 50 || a == 53 || a == 99 || a == 105 || a == 111 || Nat.ble 157 a) = true → a ∉ [44, 100, 101, 102, 103] := fun a h q => by
      simp at q
      rcases q with q | q | q | q | q <;> (subst q; cases h)
    have own_b : ∀ {a : Nat}, own a → (a == 45 || a == 49 || a == 50 || a == 53 || a == 99 || a == 105 || a == 111 || Nat.ble 157 a) = true := fun {a} h => by
      rcases h with h | h | h | h | h | h | h | h
      all_goals first | (subst h; rfl) | skip
      rw [show Nat.ble 157 a = true from Nat.ble_eq.mpr h]; simp
    have M157 := lay.1
    have keepA : ∀ {N : pm_M}, Fr [44, 100, 101, 102, 103] M N → (∀ j, j ≠ 3 → pm_ct N 44 j = pm_ct M 44 j) → TbAt N 24 T ∧ CA N T s 1 ∧ CB N T 0 98 w 1 := fun f q => ⟨hM.fr f (by decide) (by decide), hA.fr f.gr (q 1 (by decide)) (q 2 (by decide)) (nn s (own_b hA.1)), hB.fr f.gr (by omega) (by decide) (nn w (own_b hw))⟩
    by_cases hal : pop (vIn T rs cs) < 2
    · have eg := gt_leaf (T := T) (h := 0) (n := n) (rs := rs) (cs := cs) (k := k) hal
      rw [eg] at hQ h71
      have ione := c_Areas_isOneValue (d := d + n + 2) (mc := 0) (ms := 0) lay hT hA hi.1 hi.2.1 hi.2.2.1 hi.2.2.2
      rw [if_pos hal] at ione
      have ov := c_X_onlyValue (d := d + n + 1) (mc := 0) (ms := 0) (M := M) vl hal
      have f10 : vIn T rs cs ≠ 0 → fstb (vIn T rs cs) < 10 := fun h => by
        have tb : ∀ v : Fin 1024, (v : Nat) ≠ 0 → fstb (v : Nat) < 10 := by decide +kernel
        exact tb ⟨vIn T rs cs, vl⟩ h
      obtain ⟨z, hz⟩ : ∃ z : Int, z = (if vIn T rs cs = 0 then (10 : Int) else (fstb (vIn T rs cs) : Int)) := ⟨_, rfl⟩
      rw [← hz] at ov
      have zr : 0 ≤ z ∧ z ≤ 10 := by
        rw [hz]
        by_cases e : vIn T rs cs = 0
        · rw [if_pos e]; omega
        · rw [if_neg e]; have := f10 e; omega
      have e10 : z.tmod 10 = (lfv T rs cs : Int) := by
        rw [hz]
        unfold lfv
        by_cases e : vIn T rs cs = 0
        · rw [if_pos e, if_pos e]; rfl
        · rw [if_neg e, if_neg e]
          have := f10 e
          rw [Int.tmod_eq_of_lt (by omega) (by omega)]
      show Wp (d + (n + 1) + 3) 17 0 [(2, ((98 : Nat) : Int)), (0, (rs : Int)), (0, (cs : Int)), (0, (dd : Int)), (9, 0), (9, 0), (9, 0), (9, 0), (9, 0), (9, 0), (9, 0)] [] M mc ms Q
      refine g_aload_n lk_17_0 rfl ?_
      refine g_getfield lk_17_1 rfl (lay.on (by decide) rfl) (v := ((44 : Nat) : Int)) (lay.rf rfl) ?_
      refine g_iload_n lk_17_4 rfl ?_
      refine g_iload_n lk_17_5 rfl ?_
      refine g_virtual (p := 44) (Qc := _) lk_17_6 rfl (Nat.le_of_ble_eq_true rfl) rfl rfl (lay.on (by decide) rfl) (Nat.le_of_ble_eq_true rfl) (Nat.le_of_ble_eq_true rfl) (Nat.zero_le _) (Nat.zero_le _) (c_Areas_numberOf lay hT hM (by omega) (by omega)) ?_
      rintro _ N1 ⟨rfl, hN1⟩
      rw [hN1]
      show Wp _ 17 9 [(2, ((98 : Nat) : Int)), (0, (rs : Int)), (0, (cs : Int)), (0, (dd : Int)), (9, 0), (9, 0), (9, 0), (9, 0), (9, 0), (9, 0), (9, 0)] [(0, (num T rs cs : Int))] M _ _ _
      refine g_istore (ls' := [(2, ((98 : Nat) : Int)), (0, (rs : Int)), (0, (cs : Int)), (0, (dd : Int)), (0, (num T rs cs : Int)), (9, 0), (9, 0), (9, 0), (9, 0), (9, 0), (9, 0)]) lk_17_9 rfl rfl ?_
      refine g_iload_n lk_17_11 rfl ?_
      refine g_bipush lk_17_12 ?_
      refine g_icmp (t := 27) lk_17_14 rfl (by first | (unfold pm_inI; omega) | exact pm_and_in _ _ | exact pm_shr_in _ _ | exact pm_or_in _ _ | exact pm_xor_in _ _ | exact pm_shl_in _ _ | exact pm_cmp_in _ _ | exact pm_b8_in _ | (unfold pm_inI; split <;> omega)) (by first | (unfold pm_inI; omega) | exact pm_and_in _ _ | exact pm_shr_in _ _ | exact pm_or_in _ _ | exact pm_xor_in _ _ | exact pm_shl_in _ _ | exact pm_cmp_in _ _ | exact pm_b8_in _ | (unfold pm_inI; split <;> omega)) (fun h2 => ?_) (fun h2 => ?_)
      · replace h2 : 12 < (dd : Int) := h2
        refine g_return lk_17_27 ?_
        omega
      · replace h2 : ¬ (12 < (dd : Int)) := h2
        refine g_iload lk_17_17 rfl ?_
        refine g_aload_n lk_17_19 rfl ?_
        refine m_getfield (u := []) (M := M) lk_17_20 rfl (lay.on (by decide) rfl) (v := ((w : Nat) : Int)) i4 ?_
        refine g_arraylength (n := nw) lk_17_23 (by decide) hay ?_
        refine g_icmp (t := 28) lk_17_24 rfl (by first | (unfold pm_inI; omega) | exact pm_and_in _ _ | exact pm_shr_in _ _ | exact pm_or_in _ _ | exact pm_xor_in _ _ | exact pm_shl_in _ _ | exact pm_cmp_in _ _ | exact pm_b8_in _ | (unfold pm_inI; split <;> omega)) (by first | (unfold pm_inI; omega) | exact pm_and_in _ _ | exact pm_shr_in _ _ | exact pm_or_in _ _ | exact pm_xor_in _ _ | exact pm_shl_in _ _ | exact pm_cmp_in _ _ | exact pm_b8_in _ | (unfold pm_inI; split <;> omega)) (fun h3 => ?_) (fun h3 => ?_)
        · replace h3 : (num T rs cs : Int) < ((nw : Nat) : Int) := h3
          refine g_aload_n lk_17_28 rfl ?_
          refine g_getfield lk_17_29 rfl (lay.on (by decide) rfl) (v := ((44 : Nat) : Int)) (lay.rf rfl) ?_
          refine g_iload lk_17_32 rfl ?_
          refine g_virtual (p := 44) (Qc := _) lk_17_34 rfl (Nat.le_of_ble_eq_true rfl) rfl rfl (lay.on (by decide) rfl) (Nat.le_of_ble_eq_true rfl) (Nat.le_of_ble_eq_true rfl) (Nat.zero_le _) (Nat.zero_le _) (ione) ?_
          rintro _ N4 ⟨rfl, hN4⟩
          rw [hN4]
          show Wp _ 17 37 [(2, ((98 : Nat) : Int)), (0, (rs : Int)), (0, (cs : Int)), (0, (dd : Int)), (0, (num T rs cs : Int)), (9, 0), (9, 0), (9, 0), (9, 0), (9, 0), (9, 0)] [(0, 1)] M _ _ _
          refine g_if (t := 65) lk_17_37 rfl (by first | (unfold pm_inI; omega) | exact pm_and_in _ _ | exact pm_shr_in _ _ | exact pm_or_in _ _ | exact pm_xor_in _ _ | exact pm_shl_in _ _ | exact pm_cmp_in _ _ | exact pm_b8_in _ | (unfold pm_inI; split <;> omega)) (fun h => absurd h (show ¬ ((1 : Int) = (0 : Int)) by omega)) (fun _ => ?_)
          refine g_aload_n lk_17_40 rfl ?_
          refine g_getfield lk_17_41 rfl (lay.on (by decide) rfl) (v := ((100 : Nat) : Int)) (lay.rf rfl) ?_
          refine g_iconst lk_17_44 ?_
          refine g_aload_n lk_17_45 rfl ?_
          refine g_getfield lk_17_46 rfl (lay.on (by decide) rfl) (v := ((44 : Nat) : Int)) (lay.rf rfl) ?_
          refine g_iload lk_17_49 rfl ?_
          refine g_virtual (p := 44) (Qc := _) lk_17_51 rfl (Nat.le_of_ble_eq_true rfl) rfl rfl (lay.on (by decide) rfl) (Nat.le_of_ble_eq_true rfl) (Nat.le_of_ble_eq_true rfl) (Nat.zero_le _) (Nat.zero_le _) (c_Areas_valuesOf lay hT hA hi.1 hi.2.1 hi.2.2.1 hi.2.2.2) ?_
          rintro _ N5 ⟨rfl, hN5⟩
          rw [hN5]
          show Wp _ 17 54 [(2, ((98 : Nat) : Int)), (0, (rs : Int)), (0, (cs : Int)), (0, (dd : Int)), (0, (num T rs cs : Int)), (9, 0), (9, 0), (9, 0), (9, 0), (9, 0), (9, 0)] [(0, (vIn T rs cs : Int)), (0, 0), (2, ((100 : Nat) : Int))] M _ _ _
          refine g_static (Qc := _) lk_17_54 (by decide) rfl (Nat.le_of_ble_eq_true rfl) rfl rfl (Nat.le_of_ble_eq_true rfl) (Nat.le_of_ble_eq_true rfl) (Nat.zero_le _) (Nat.zero_le _) (ov) ?_
          rintro _ N6 ⟨rfl, hN6⟩
          rw [hN6]
          show Wp _ 17 57 [(2, ((98 : Nat) : Int)), (0, (rs : Int)), (0, (cs : Int)), (0, (dd : Int)), (0, (num T rs cs : Int)), (9, 0), (9, 0), (9, 0), (9, 0), (9, 0), (9, 0)] [(0, z), (0, 0), (2, ((100 : Nat) : Int))] M _ _ _
          refine g_bipush lk_17_57 ?_
          refine g_irem lk_17_59 (by unfold pm_inI; omega) (by unfold pm_inI; omega) (by omega) ?_
          refine g_top (z := (z.tmod 10)) (z' := (lfv T rs cs : Int)) (e10) ?_
          refine g_virtual (p := 100) (Qc := _) lk_17_60 rfl (Nat.le_of_ble_eq_true rfl) rfl rfl (lay.on (by decide) rfl) (Nat.le_of_ble_eq_true rfl) (Nat.le_of_ble_eq_true rfl) (Nat.zero_le _) (Nat.zero_le _) (c_Nodes_add0 (x := 0) lay hct (by show k < 71; have : ([(0, lfv T rs cs, (-1 : Int))] : List Nd).length = 1 := rfl; omega)) ?_
          rintro _ K1 ⟨rfl, lay1, f1, c1, c2, c3, c4⟩
          show Wp _ 17 63 [(2, ((98 : Nat) : Int)), (0, (rs : Int)), (0, (cs : Int)), (0, (dd : Int)), (0, (num T rs cs : Int)), (9, 0), (9, 0), (9, 0), (9, 0), (9, 0), (9, 0)] [(0, (k : Int))] K1 _ _ _
          refine g_pop lk_17_63 rfl ?_
          refine g_return lk_17_64 ?_
          rw [hQ]
          refine ⟨rfl, lay1, mN f1, fun j _ => by rw [f1.ct (by decide)], ?_, ?_⟩
          · rw [c1, List.length_append, ← hk]; rfl
          · exact hL.push hk c2 c3 c4
        · replace h3 : ¬ ((num T rs cs : Int) < ((nw : Nat) : Int)) := h3
          refine g_return lk_17_27 ?_
          omega
    · have ione := c_Areas_isOneValue (d := d + n + 2) (mc := 0) (ms := 0) lay hT hA hi.1 hi.2.1 hi.2.2.1 hi.2.2.2
      rw [if_neg hal] at ione
      have tB1 := c_Best_talkOfB0 (d := d + n + 1) (mc := 0) (ms := 0) lay hT hM hA i2 hw i4 hay hn hi.1 hi.2.1 hi.2.2.1 hi.2.2.2 (fun q a b => hwo rs q hi.1 hi.2.1 a (by have := hi.2.2.2; omega))
      have p1 := spl_far (sb 0) (fun q => BW T 0 q cs) rs
      have p2 := spl_far (sb 0) (fun q => BW T 0 rs q) cs
      have p3 := prc_le hT hT.2.2.2.1.2 0 rs cs
      have p4 := prc_le hT hT.2.2.2.2.2 0 rs cs
      have ewA : wA T 0 rs cs = spl (sb 0) (fun q => BW T 0 q cs) rs + prc T 0 (tA T) rs cs := rfl
      have ewB : wB T 0 rs cs = spl (sb 0) (fun q => BW T 0 rs q) cs + prc T 0 (tB T) rs cs := rfl
      obtain ⟨xA, hxA⟩ : ∃ x, x = wA T 0 rs cs := ⟨_, rfl⟩
      obtain ⟨xB, hxB⟩ : ∃ x, x = wB T 0 rs cs := ⟨_, rfl⟩
      rw [← ewB, ← hxB] at tB1
      -- the split is known: one node, its parts
      have k113 : ∀ (K : pm_M) (ia sA sB : Nat) (z5 z7 : Int), Lay K → Fr [44] M K → (∀ j, j ≠ 3 → pm_ct K 44 j = pm_ct M 44 j) → (ia = 1 ∧ xA ≤ xB ∧ sA = pA T 0 rs cs ∧ sA < rs ∧ spC rs sA = true ∨ ia = 0 ∧ ¬ xA ≤ xB ∧ sB = pB' T 0 rs cs ∧ sB < cs ∧ spC cs sB = true) → Wp (d + (n + 1) + 3) 17 113 [(2, ((98 : Nat) : Int)), (0, (rs : Int)), (0, (cs : Int)), (0, (dd : Int)), (0, (num T rs cs : Int)), (0, z5), (0, (sB : Int)), (0, z7), (0, (sA : Int)), (0, (ia : Int)), (9, 0)] [] K mc ms Q := by
        intro K ia sA sB z5 z7 layK fK k44 hc
        have hctK : pm_ct K 100 3 = (k : Int) := by rw [fK.ct (by decide)]; exact hct
        have hLK : NdL K 101 102 103 L := hL.of (fK.ct (by decide)) (fK.ct (by decide)) (fK.ct (by decide))
        rcases hc with ⟨rfl, hx, hs1, hs2, hs3⟩ | ⟨rfl, hx, hs1, hs2, hs3⟩
        · obtain ⟨y1, y2, -, -, y5, y6, y7⟩ := spC_s r64 (by have := hi.1; omega) hs2 hs3
          have eg := gt_A (T := T) (h := 0) (n := n) (rs := rs) (cs := cs) (k := k) hal (by rw [← hxA, ← hxB]; exact hx)
          rw [← hs1] at eg
          rw [eg] at hQ h71
          obtain ⟨G1, hG1⟩ : ∃ G, G = gt T 0 n sA cs (k + 1) := ⟨_, rfl⟩
          obtain ⟨G2, hG2⟩ : ∃ G, G = gt T 0 n (rs - sA) cs (k + 1 + G1.length) := ⟨_, rfl⟩
          rw [← hG1, ← hG2] at hQ h71
          rw [List.length_cons, List.length_append] at h71
          have in1 : inT T sA cs := ⟨y1, by have := hi.2.1; omega, hi.2.2.1, hi.2.2.2⟩
          have in2 : inT T (rs - sA) cs := ⟨y2, by have := hi.2.1; omega, hi.2.2.1, hi.2.2.2⟩
          have xr : pm_xor (rs : Int) (sA : Int) = ((rs - sA : Nat) : Int) := xor_tab ⟨rs, r64⟩ ⟨sA, by omega⟩ (spC_sub hs3)
          obtain ⟨r2, hr2⟩ : ∃ r, r = rs - sA := ⟨_, rfl⟩
          rw [← hr2] at xr in2 hG2 y5 y7
          refine g_aload_n lk_17_113 rfl ?_
          refine g_getfield lk_17_114 rfl (layK.on (by decide) rfl) (v := ((100 : Nat) : Int)) (layK.rf rfl) ?_
          refine g_iload lk_17_117 rfl ?_
          refine g_if (t := 126) lk_17_119 rfl (by first | (unfold pm_inI; omega) | exact pm_and_in _ _ | exact pm_shr_in _ _ | exact pm_or_in _ _ | exact pm_xor_in _ _ | exact pm_shl_in _ _ | exact pm_cmp_in _ _ | exact pm_b8_in _ | (unfold pm_inI; split <;> omega)) (fun h => absurd h (show ¬ ((1 : Int) = (0 : Int)) by omega)) (fun _ => ?_)
          refine g_iconst lk_17_122 ?_
          refine g_goto (t := 127) lk_17_123 rfl ?_
          refine g_iload lk_17_127 rfl ?_
          refine g_if (t := 137) lk_17_129 rfl (by first | (unfold pm_inI; omega) | exact pm_and_in _ _ | exact pm_shr_in _ _ | exact pm_or_in _ _ | exact pm_xor_in _ _ | exact pm_shl_in _ _ | exact pm_cmp_in _ _ | exact pm_b8_in _ | (unfold pm_inI; split <;> omega)) (fun h => absurd h (show ¬ ((1 : Int) = (0 : Int)) by omega)) (fun _ => ?_)
          refine g_iload lk_17_132 rfl ?_
          refine g_goto (t := 139) lk_17_134 rfl ?_
          refine g_virtual (p := 100) (Qc := _) lk_17_139 rfl (Nat.le_of_ble_eq_true rfl) rfl rfl (layK.on (by decide) rfl) (Nat.le_of_ble_eq_true rfl) (Nat.le_of_ble_eq_true rfl) (Nat.zero_le _) (Nat.zero_le _) (c_Nodes_add0 (x := 1) (y := sA) layK hctK (by omega)) ?_
          rintro _ K1 ⟨rfl, lay1, f1, c1, c2, c3, c4⟩
          have F1 : Fr [44, 100, 101, 102, 103] M K1 := (m44 fK).trans (mN f1)
          have q1 : ∀ j, j ≠ 3 → pm_ct K1 44 j = pm_ct M 44 j := (fun j hj => by rw [f1.ct (by decide)]; exact k44 j hj)
          have L1 : NdL K1 101 102 103 (L ++ [(1, sA, -1)]) := hLK.push hk c2 c3 c4
          have e1 : (L ++ [((1, sA, -1) : Nd)]).length = k + 1 := (by rw [List.length_append, ← hk]; rfl)
          have g1 := ih d 0 0 sA cs (dd + 1) K1 (L ++ [(1, sA, -1)]) s w in1 (by omega) (by omega) lay1 (keepA F1 q1).1 (keepA F1 q1).2.1 (keepA F1 q1).2.2 hsw (by rw [e1]; exact c1) L1 (by rw [e1, ← hG1]; omega)
          rw [e1, ← hG1] at g1
          rw [show d + n + 3 = d + (n + 1) + 2 by omega] at g1
          show Wp _ 17 142 [(2, ((98 : Nat) : Int)), (0, (rs : Int)), (0, (cs : Int)), (0, (dd : Int)), (0, (num T rs cs : Int)), (0, z5), (0, (sB : Int)), (0, z7), (0, (sA : Int)), (0, 1), (9, 0)] [(0, (k : Int))] K1 _ _ _
          refine g_istore (ls' := [(2, ((98 : Nat) : Int)), (0, (rs : Int)), (0, (cs : Int)), (0, (dd : Int)), (0, (num T rs cs : Int)), (0, z5), (0, (sB : Int)), (0, z7), (0, (sA : Int)), (0, 1), (0, (k : Int))]) lk_17_142 rfl rfl ?_
          refine g_iload lk_17_144 rfl ?_
          refine g_if (t := 150) lk_17_146 rfl (by first | (unfold pm_inI; omega) | exact pm_and_in _ _ | exact pm_shr_in _ _ | exact pm_or_in _ _ | exact pm_xor_in _ _ | exact pm_shl_in _ _ | exact pm_cmp_in _ _ | exact pm_b8_in _ | (unfold pm_inI; split <;> omega)) (fun h1 => ?_) (fun h1 => ?_)
          · replace h1 : 0 ≤ (k : Int) := h1
            refine g_aload_n lk_17_150 rfl ?_
            refine g_iload lk_17_151 rfl ?_
            refine g_if (t := 161) lk_17_153 rfl (by first | (unfold pm_inI; omega) | exact pm_and_in _ _ | exact pm_shr_in _ _ | exact pm_or_in _ _ | exact pm_xor_in _ _ | exact pm_shl_in _ _ | exact pm_cmp_in _ _ | exact pm_b8_in _ | (unfold pm_inI; split <;> omega)) (fun h => absurd h (show ¬ ((1 : Int) = (0 : Int)) by omega)) (fun _ => ?_)
            refine g_iload lk_17_156 rfl ?_
            refine g_goto (t := 162) lk_17_158 rfl ?_
            refine g_iload lk_17_162 rfl ?_
            refine g_if (t := 171) lk_17_164 rfl (by first | (unfold pm_inI; omega) | exact pm_and_in _ _ | exact pm_shr_in _ _ | exact pm_or_in _ _ | exact pm_xor_in _ _ | exact pm_shl_in _ _ | exact pm_cmp_in _ _ | exact pm_b8_in _ | (unfold pm_inI; split <;> omega)) (fun h => absurd h (show ¬ ((1 : Int) = (0 : Int)) by omega)) (fun _ => ?_)
            refine g_iload_n lk_17_167 rfl ?_
            refine g_goto (t := 173) lk_17_168 rfl ?_
            refine g_iload_n lk_17_173 rfl ?_
            refine g_iconst lk_17_174 ?_
            refine g_iadd lk_17_175 ?_
            refine g_virtual (p := 98) (Qc := _) lk_17_176 rfl (Nat.le_of_ble_eq_true rfl) rfl rfl (lay1.on (by decide) rfl) (Nat.le_of_ble_eq_true rfl) (Nat.le_of_ble_eq_true rfl) (Nat.zero_le _) (Nat.zero_le _) (g1) ?_
            rintro _ K2 ⟨rfl, lay2, f2, q2, d1, L2⟩
            rw [List.length_append, e1] at d1
            have F2 : Fr [44, 100, 101, 102, 103] M K2 := F1.trans f2
            have q2' : ∀ j, j ≠ 3 → pm_ct K2 44 j = pm_ct M 44 j := (fun j hj => (q2 j hj).trans (q1 j hj))
            show Wp _ 17 179 [(2, ((98 : Nat) : Int)), (0, (rs : Int)), (0, (cs : Int)), (0, (dd : Int)), (0, (num T rs cs : Int)), (0, z5), (0, (sB : Int)), (0, z7), (0, (sA : Int)), (0, 1), (0, (k : Int))] [] K2 _ _ _
            refine g_aload_n lk_17_179 rfl ?_
            refine g_getfield lk_17_180 rfl (lay2.on (by decide) rfl) (v := ((100 : Nat) : Int)) (lay2.rf rfl) ?_
            refine g_getfield lk_17_183 rfl (lay2.on (by decide) rfl) (v := ((103 : Nat) : Int)) (lay2.rf rfl) ?_
            refine g_iload lk_17_186 rfl ?_
            refine g_aload_n lk_17_188 rfl ?_
            refine g_getfield lk_17_189 rfl (lay2.on (by decide) rfl) (v := ((100 : Nat) : Int)) (lay2.rf rfl) ?_
            refine m_getfield (u := []) (M := K2) lk_17_192 rfl (lay2.on (by decide) rfl) (v := ((k + 1 + G1.length : Nat) : Int)) d1 ?_
            have lay2 : Lay (Mu [(103, pm_upd (pm_ct K2 103) k ((k + 1 + G1.length : Nat) : Int))] K2) := lay2.muA (l := []) (a := 103) (f := pm_upd (pm_ct K2 103) k ((k + 1 + G1.length : Nat) : Int)) rfl rfl
            refine m_iastore (u := []) (u' := [(103, pm_upd (pm_ct K2 103) k ((k + 1 + G1.length : Nat) : Int))]) (M := K2) lk_17_195 (lay2.ay (by decide) rfl) (by omega) (j := k) (by omega) rfl ?_
            refine g_aload_n lk_17_196 rfl ?_
            refine g_iload lk_17_197 rfl ?_
            refine g_if (t := 209) lk_17_199 rfl (by first | (unfold pm_inI; omega) | exact pm_and_in _ _ | exact pm_shr_in _ _ | exact pm_or_in _ _ | exact pm_xor_in _ _ | exact pm_shl_in _ _ | exact pm_cmp_in _ _ | exact pm_b8_in _ | (unfold pm_inI; split <;> omega)) (fun h => absurd h (show ¬ ((1 : Int) = (0 : Int)) by omega)) (fun _ => ?_)
            refine g_iload_n lk_17_202 rfl ?_
            refine g_iload lk_17_203 rfl ?_
            refine g_ixor lk_17_205 ?_
            refine g_top (z := (pm_xor (rs : Int) (sA : Int))) (z' := (r2 : Int)) (xr) ?_
            refine g_goto (t := 210) lk_17_206 rfl ?_
            refine g_iload lk_17_210 rfl ?_
            refine g_if (t := 219) lk_17_212 rfl (by first | (unfold pm_inI; omega) | exact pm_and_in _ _ | exact pm_shr_in _ _ | exact pm_or_in _ _ | exact pm_xor_in _ _ | exact pm_shl_in _ _ | exact pm_cmp_in _ _ | exact pm_b8_in _ | (unfold pm_inI; split <;> omega)) (fun h => absurd h (show ¬ ((1 : Int) = (0 : Int)) by omega)) (fun _ => ?_)
            refine g_iload_n lk_17_215 rfl ?_
            refine g_goto (t := 223) lk_17_216 rfl ?_
            refine g_iload_n lk_17_223 rfl ?_
            refine g_iconst lk_17_224 ?_
            refine g_iadd lk_17_225 ?_
            have fM : Fr [103] K2 (Mu [(103, pm_upd (pm_ct K2 103) k ((k + 1 + G1.length : Nat) : Int))] K2) := Fr.mu _ _ rfl
            have F3 : Fr [44, 100, 101, 102, 103] M (Mu [(103, pm_upd (pm_ct K2 103) k ((k + 1 + G1.length : Nat) : Int))] K2) := F2.trans (fM.mono (fun a q => by simp at q; simp [q]))
            have q3 : ∀ j, j ≠ 3 → pm_ct (Mu [(103, pm_upd (pm_ct K2 103) k ((k + 1 + G1.length : Nat) : Int))] K2) 44 j = pm_ct M 44 j := fun j hj => by rw [fM.ct (by decide)]; exact q2' j hj
            have L3 : NdL (Mu [(103, pm_upd (pm_ct K2 103) k ((k + 1 + G1.length : Nat) : Int))] K2) 101 102 103 (L ++ [(1, sA, ((k + 1 + G1.length : Nat) : Int))] ++ G1) := L2.put hk (fM.ct (by decide)) (fM.ct (by decide)) (by rw [Mu_ct]; rfl)
            have e3 : (L ++ [((1, sA, ((k + 1 + G1.length : Nat) : Int)) : Nd)] ++ G1).length = k + 1 + G1.length := by rw [List.length_append, List.length_append, ← hk]; rfl
            have g2 := ih d 0 0 r2 cs (dd + 1) (Mu [(103, pm_upd (pm_ct K2 103) k ((k + 1 + G1.length : Nat) : Int))] K2) (L ++ [(1, sA, ((k + 1 + G1.length : Nat) : Int))] ++ G1) s w in2 (by omega) (by omega) lay2 (keepA F3 q3).1 (keepA F3 q3).2.1 (keepA F3 q3).2.2 hsw (by rw [e3, fM.ct (by decide)]; exact d1) L3 (by rw [e3, ← hG2]; omega)
            rw [e3, ← hG2] at g2
            rw [show d + n + 3 = d + (n + 1) + 2 by omega] at g2
            refine g_virtual (p := 98) (Qc := _) lk_17_226 rfl (Nat.le_of_ble_eq_true rfl) rfl rfl (lay2.on (by decide) rfl) (Nat.le_of_ble_eq_true rfl) (Nat.le_of_ble_eq_true rfl) (Nat.zero_le _) (Nat.zero_le _) g2 ?_
            rintro _ K3 ⟨rfl, lay3, f3, q4, d3, L4⟩
            refine g_return lk_17_229 ?_
            rw [hQ]
            have ea : L ++ [(1, sA, ((k + 1 + G1.length : Nat) : Int))] ++ G1 ++ G2 = L ++ (1, sA, ((k + 1 + G1.length : Nat) : Int)) :: (G1 ++ G2) := by simp
            rw [ea] at d3 L4
            exact ⟨rfl, lay3, F3.trans f3, fun j hj => (q4 j hj).trans (q3 j hj), d3, L4⟩
          · replace h1 : ¬ (0 ≤ (k : Int)) := h1
            refine g_return lk_17_149 ?_
            omega
        · obtain ⟨y1, y2, -, -, y5, y6, y7⟩ := spC_s c64 (by have := hi.2.2.1; omega) hs2 hs3
          have eg := gt_B (T := T) (h := 0) (n := n) (rs := rs) (cs := cs) (k := k) hal (by rw [← hxA, ← hxB]; exact hx)
          rw [← hs1] at eg
          rw [eg] at hQ h71
          obtain ⟨G1, hG1⟩ : ∃ G, G = gt T 0 n rs sB (k + 1) := ⟨_, rfl⟩
          obtain ⟨G2, hG2⟩ : ∃ G, G = gt T 0 n rs (cs - sB) (k + 1 + G1.length) := ⟨_, rfl⟩
          rw [← hG1, ← hG2] at hQ h71
          rw [List.length_cons, List.length_append] at h71
          have in1 : inT T rs sB := ⟨hi.1, hi.2.1, y1, by have := hi.2.2.2; omega⟩
          have in2 : inT T rs (cs - sB) := ⟨hi.1, hi.2.1, y2, by have := hi.2.2.2; omega⟩
          have xr : pm_xor (cs : Int) (sB : Int) = ((cs - sB : Nat) : Int) := xor_tab ⟨cs, c64⟩ ⟨sB, by omega⟩ (spC_sub hs3)
          obtain ⟨r2, hr2⟩ : ∃ r, r = cs - sB := ⟨_, rfl⟩
          rw [← hr2] at xr in2 hG2 y5 y7
          refine g_aload_n lk_17_113 rfl ?_
          refine g_getfield lk_17_114 rfl (layK.on (by decide) rfl) (v := ((100 : Nat) : Int)) (layK.rf rfl) ?_
          refine g_iload lk_17_117 rfl ?_
          refine g_if (t := 126) lk_17_119 rfl (by first | (unfold pm_inI; omega) | exact pm_and_in _ _ | exact pm_shr_in _ _ | exact pm_or_in _ _ | exact pm_xor_in _ _ | exact pm_shl_in _ _ | exact pm_cmp_in _ _ | exact pm_b8_in _ | (unfold pm_inI; split <;> omega)) (fun _ => ?_) (fun h => absurd (show (0 : Int) = (0 : Int) by omega) h)
          refine g_iconst lk_17_126 ?_
          refine g_iload lk_17_127 rfl ?_
          refine g_if (t := 137) lk_17_129 rfl (by first | (unfold pm_inI; omega) | exact pm_and_in _ _ | exact pm_shr_in _ _ | exact pm_or_in _ _ | exact pm_xor_in _ _ | exact pm_shl_in _ _ | exact pm_cmp_in _ _ | exact pm_b8_in _ | (unfold pm_inI; split <;> omega)) (fun _ => ?_) (fun h => absurd (show (0 : Int) = (0 : Int) by omega) h)
          refine g_iload lk_17_137 rfl ?_
          refine g_virtual (p := 100) (Qc := _) lk_17_139 rfl (Nat.le_of_ble_eq_true rfl) rfl rfl (layK.on (by decide) rfl) (Nat.le_of_ble_eq_true rfl) (Nat.le_of_ble_eq_true rfl) (Nat.zero_le _) (Nat.zero_le _) (c_Nodes_add0 (x := 2) (y := sB) layK hctK (by omega)) ?_
          rintro _ K1 ⟨rfl, lay1, f1, c1, c2, c3, c4⟩
          have F1 : Fr [44, 100, 101, 102, 103] M K1 := (m44 fK).trans (mN f1)
          have q1 : ∀ j, j ≠ 3 → pm_ct K1 44 j = pm_ct M 44 j := (fun j hj => by rw [f1.ct (by decide)]; exact k44 j hj)
          have L1 : NdL K1 101 102 103 (L ++ [(2, sB, -1)]) := hLK.push hk c2 c3 c4
          have e1 : (L ++ [((2, sB, -1) : Nd)]).length = k + 1 := (by rw [List.length_append, ← hk]; rfl)
          have g1 := ih d 0 0 rs sB (dd + 1) K1 (L ++ [(2, sB, -1)]) s w in1 (by omega) (by omega) lay1 (keepA F1 q1).1 (keepA F1 q1).2.1 (keepA F1 q1).2.2 hsw (by rw [e1]; exact c1) L1 (by rw [e1, ← hG1]; omega)
          rw [e1, ← hG1] at g1
          rw [show d + n + 3 = d + (n + 1) + 2 by omega] at g1
          show Wp _ 17 142 [(2, ((98 : Nat) : Int)), (0, (rs : Int)), (0, (cs : Int)), (0, (dd : Int)), (0, (num T rs cs : Int)), (0, z5), (0, (sB : Int)), (0, z7), (0, (sA : Int)), (0, 0), (9, 0)] [(0, (k : Int))] K1 _ _ _
          refine g_istore (ls' := [(2, ((98 : Nat) : Int)), (0, (rs : Int)), (0, (cs : Int)), (0, (dd : Int)), (0, (num T rs cs : Int)), (0, z5), (0, (sB : Int)), (0, z7), (0, (sA : Int)), (0, 0), (0, (k : Int))]) lk_17_142 rfl rfl ?_
          refine g_iload lk_17_144 rfl ?_
          refine g_if (t := 150) lk_17_146 rfl (by first | (unfold pm_inI; omega) | exact pm_and_in _ _ | exact pm_shr_in _ _ | exact pm_or_in _ _ | exact pm_xor_in _ _ | exact pm_shl_in _ _ | exact pm_cmp_in _ _ | exact pm_b8_in _ | (unfold pm_inI; split <;> omega)) (fun h1 => ?_) (fun h1 => ?_)
          · replace h1 : 0 ≤ (k : Int) := h1
            refine g_aload_n lk_17_150 rfl ?_
            refine g_iload lk_17_151 rfl ?_
            refine g_if (t := 161) lk_17_153 rfl (by first | (unfold pm_inI; omega) | exact pm_and_in _ _ | exact pm_shr_in _ _ | exact pm_or_in _ _ | exact pm_xor_in _ _ | exact pm_shl_in _ _ | exact pm_cmp_in _ _ | exact pm_b8_in _ | (unfold pm_inI; split <;> omega)) (fun _ => ?_) (fun h => absurd (show (0 : Int) = (0 : Int) by omega) h)
            refine g_iload_n lk_17_161 rfl ?_
            refine g_iload lk_17_162 rfl ?_
            refine g_if (t := 171) lk_17_164 rfl (by first | (unfold pm_inI; omega) | exact pm_and_in _ _ | exact pm_shr_in _ _ | exact pm_or_in _ _ | exact pm_xor_in _ _ | exact pm_shl_in _ _ | exact pm_cmp_in _ _ | exact pm_b8_in _ | (unfold pm_inI; split <;> omega)) (fun _ => ?_) (fun h => absurd (show (0 : Int) = (0 : Int) by omega) h)
            refine g_iload lk_17_171 rfl ?_
            refine g_iload_n lk_17_173 rfl ?_
            refine g_iconst lk_17_174 ?_
            refine g_iadd lk_17_175 ?_
            refine g_virtual (p := 98) (Qc := _) lk_17_176 rfl (Nat.le_of_ble_eq_true rfl) rfl rfl (lay1.on (by decide) rfl) (Nat.le_of_ble_eq_true rfl) (Nat.le_of_ble_eq_true rfl) (Nat.zero_le _) (Nat.zero_le _) (g1) ?_
            rintro _ K2 ⟨rfl, lay2, f2, q2, d1, L2⟩
            rw [List.length_append, e1] at d1
            have F2 : Fr [44, 100, 101, 102, 103] M K2 := F1.trans f2
            have q2' : ∀ j, j ≠ 3 → pm_ct K2 44 j = pm_ct M 44 j := (fun j hj => (q2 j hj).trans (q1 j hj))
            show Wp _ 17 179 [(2, ((98 : Nat) : Int)), (0, (rs : Int)), (0, (cs : Int)), (0, (dd : Int)), (0, (num T rs cs : Int)), (0, z5), (0, (sB : Int)), (0, z7), (0, (sA : Int)), (0, 0), (0, (k : Int))] [] K2 _ _ _
            refine g_aload_n lk_17_179 rfl ?_
            refine g_getfield lk_17_180 rfl (lay2.on (by decide) rfl) (v := ((100 : Nat) : Int)) (lay2.rf rfl) ?_
            refine g_getfield lk_17_183 rfl (lay2.on (by decide) rfl) (v := ((103 : Nat) : Int)) (lay2.rf rfl) ?_
            refine g_iload lk_17_186 rfl ?_
            refine g_aload_n lk_17_188 rfl ?_
            refine g_getfield lk_17_189 rfl (lay2.on (by decide) rfl) (v := ((100 : Nat) : Int)) (lay2.rf rfl) ?_
            refine m_getfield (u := []) (M := K2) lk_17_192 rfl (lay2.on (by decide) rfl) (v := ((k + 1 + G1.length : Nat) : Int)) d1 ?_
            have lay2 : Lay (Mu [(103, pm_upd (pm_ct K2 103) k ((k + 1 + G1.length : Nat) : Int))] K2) := lay2.muA (l := []) (a := 103) (f := pm_upd (pm_ct K2 103) k ((k + 1 + G1.length : Nat) : Int)) rfl rfl
            refine m_iastore (u := []) (u' := [(103, pm_upd (pm_ct K2 103) k ((k + 1 + G1.length : Nat) : Int))]) (M := K2) lk_17_195 (lay2.ay (by decide) rfl) (by omega) (j := k) (by omega) rfl ?_
            refine g_aload_n lk_17_196 rfl ?_
            refine g_iload lk_17_197 rfl ?_
            refine g_if (t := 209) lk_17_199 rfl (by first | (unfold pm_inI; omega) | exact pm_and_in _ _ | exact pm_shr_in _ _ | exact pm_or_in _ _ | exact pm_xor_in _ _ | exact pm_shl_in _ _ | exact pm_cmp_in _ _ | exact pm_b8_in _ | (unfold pm_inI; split <;> omega)) (fun _ => ?_) (fun h => absurd (show (0 : Int) = (0 : Int) by omega) h)
            refine g_iload_n lk_17_209 rfl ?_
            refine g_iload lk_17_210 rfl ?_
            refine g_if (t := 219) lk_17_212 rfl (by first | (unfold pm_inI; omega) | exact pm_and_in _ _ | exact pm_shr_in _ _ | exact pm_or_in _ _ | exact pm_xor_in _ _ | exact pm_shl_in _ _ | exact pm_cmp_in _ _ | exact pm_b8_in _ | (unfold pm_inI; split <;> omega)) (fun _ => ?_) (fun h => absurd (show (0 : Int) = (0 : Int) by omega) h)
            refine g_iload_n lk_17_219 rfl ?_
            refine g_iload lk_17_220 rfl ?_
            refine g_ixor lk_17_222 ?_
            refine g_top (z := (pm_xor (cs : Int) (sB : Int))) (z' := (r2 : Int)) (xr) ?_
            refine g_iload_n lk_17_223 rfl ?_
            refine g_iconst lk_17_224 ?_
            refine g_iadd lk_17_225 ?_
            have fM : Fr [103] K2 (Mu [(103, pm_upd (pm_ct K2 103) k ((k + 1 + G1.length : Nat) : Int))] K2) := Fr.mu _ _ rfl
            have F3 : Fr [44, 100, 101, 102, 103] M (Mu [(103, pm_upd (pm_ct K2 103) k ((k + 1 + G1.length : Nat) : Int))] K2) := F2.trans (fM.mono (fun a q => by simp at q; simp [q]))
            have q3 : ∀ j, j ≠ 3 → pm_ct (Mu [(103, pm_upd (pm_ct K2 103) k ((k + 1 + G1.length : Nat) : Int))] K2) 44 j = pm_ct M 44 j := fun j hj => by rw [fM.ct (by decide)]; exact q2' j hj
            have L3 : NdL (Mu [(103, pm_upd (pm_ct K2 103) k ((k + 1 + G1.length : Nat) : Int))] K2) 101 102 103 (L ++ [(2, sB, ((k + 1 + G1.length : Nat) : Int))] ++ G1) := L2.put hk (fM.ct (by decide)) (fM.ct (by decide)) (by rw [Mu_ct]; rfl)
            have e3 : (L ++ [((2, sB, ((k + 1 + G1.length : Nat) : Int)) : Nd)] ++ G1).length = k + 1 + G1.length := by rw [List.length_append, List.length_append, ← hk]; rfl
            have g2 := ih d 0 0 rs r2 (dd + 1) (Mu [(103, pm_upd (pm_ct K2 103) k ((k + 1 + G1.length : Nat) : Int))] K2) (L ++ [(2, sB, ((k + 1 + G1.length : Nat) : Int))] ++ G1) s w in2 (by omega) (by omega) lay2 (keepA F3 q3).1 (keepA F3 q3).2.1 (keepA F3 q3).2.2 hsw (by rw [e3, fM.ct (by decide)]; exact d1) L3 (by rw [e3, ← hG2]; omega)
            rw [e3, ← hG2] at g2
            rw [show d + n + 3 = d + (n + 1) + 2 by omega] at g2
            refine g_virtual (p := 98) (Qc := _) lk_17_226 rfl (Nat.le_of_ble_eq_true rfl) rfl rfl (lay2.on (by decide) rfl) (Nat.le_of_ble_eq_true rfl) (Nat.le_of_ble_eq_true rfl) (Nat.zero_le _) (Nat.zero_le _) g2 ?_
            rintro _ K3 ⟨rfl, lay3, f3, q4, d3, L4⟩
            refine g_return lk_17_229 ?_
            rw [hQ]
            have ea : L ++ [(2, sB, ((k + 1 + G1.length : Nat) : Int))] ++ G1 ++ G2 = L ++ (2, sB, ((k + 1 + G1.length : Nat) : Int)) :: (G1 ++ G2) := by simp
            rw [ea] at d3 L4
            exact ⟨rfl, lay3, F3.trans f3, fun j hj => (q4 j hj).trans (q3 j hj), d3, L4⟩
          · replace h1 : ¬ (0 ≤ (k : Int)) := h1
            refine g_return lk_17_149 ?_
            omega
      show Wp (d + (n + 1) + 3) 17 0 [(2, ((98 : Nat) : Int)), (0, (rs : Int)), (0, (cs : Int)), (0, (dd : Int)), (9, 0), (9, 0), (9, 0), (9, 0), (9, 0), (9, 0), (9, 0)] [] M mc ms Q
      refine g_aload_n lk_17_0 rfl ?_
      refine g_getfield lk_17_1 rfl (lay.on (by decide) rfl) (v := ((44 : Nat) : Int)) (lay.rf rfl) ?_
      refine g_iload_n lk_17_4 rfl ?_
      refine g_iload_n lk_17_5 rfl ?_
      refine g_virtual (p := 44) (Qc := _) lk_17_6 rfl (Nat.le_of_ble_eq_true rfl) rfl rfl (lay.on (by decide) rfl) (Nat.le_of_ble_eq_true rfl) (Nat.le_of_ble_eq_true rfl) (Nat.zero_le _) (Nat.zero_le _) (c_Areas_numberOf lay hT hM (by omega) (by omega)) ?_
      rintro _ N1 ⟨rfl, hN1⟩
      rw [hN1]
      show Wp _ 17 9 [(2, ((98 : Nat) : Int)), (0, (rs : Int)), (0, (cs : Int)), (0, (dd : Int)), (9, 0), (9, 0), (9, 0), (9, 0), (9, 0), (9, 0), (9, 0)] [(0, (num T rs cs : Int))] M _ _ _
      refine g_istore (ls' := [(2, ((98 : Nat) : Int)), (0, (rs : Int)), (0, (cs : Int)), (0, (dd : Int)), (0, (num T rs cs : Int)), (9, 0), (9, 0), (9, 0), (9, 0), (9, 0), (9, 0)]) lk_17_9 rfl rfl ?_
      refine g_iload_n lk_17_11 rfl ?_
      refine g_bipush lk_17_12 ?_
      refine g_icmp (t := 27) lk_17_14 rfl (by first | (unfold pm_inI; omega) | exact pm_and_in _ _ | exact pm_shr_in _ _ | exact pm_or_in _ _ | exact pm_xor_in _ _ | exact pm_shl_in _ _ | exact pm_cmp_in _ _ | exact pm_b8_in _ | (unfold pm_inI; split <;> omega)) (by first | (unfold pm_inI; omega) | exact pm_and_in _ _ | exact pm_shr_in _ _ | exact pm_or_in _ _ | exact pm_xor_in _ _ | exact pm_shl_in _ _ | exact pm_cmp_in _ _ | exact pm_b8_in _ | (unfold pm_inI; split <;> omega)) (fun h2 => ?_) (fun h2 => ?_)
      · replace h2 : 12 < (dd : Int) := h2
        refine g_return lk_17_27 ?_
        omega
      · replace h2 : ¬ (12 < (dd : Int)) := h2
        refine g_iload lk_17_17 rfl ?_
        refine g_aload_n lk_17_19 rfl ?_
        refine m_getfield (u := []) (M := M) lk_17_20 rfl (lay.on (by decide) rfl) (v := ((w : Nat) : Int)) i4 ?_
        refine g_arraylength (n := nw) lk_17_23 (by decide) hay ?_
        refine g_icmp (t := 28) lk_17_24 rfl (by first | (unfold pm_inI; omega) | exact pm_and_in _ _ | exact pm_shr_in _ _ | exact pm_or_in _ _ | exact pm_xor_in _ _ | exact pm_shl_in _ _ | exact pm_cmp_in _ _ | exact pm_b8_in _ | (unfold pm_inI; split <;> omega)) (by first | (unfold pm_inI; omega) | exact pm_and_in _ _ | exact pm_shr_in _ _ | exact pm_or_in _ _ | exact pm_xor_in _ _ | exact pm_shl_in _ _ | exact pm_cmp_in _ _ | exact pm_b8_in _ | (unfold pm_inI; split <;> omega)) (fun h3 => ?_) (fun h3 => ?_)
        · replace h3 : (num T rs cs : Int) < ((nw : Nat) : Int) := h3
          refine g_aload_n lk_17_28 rfl ?_
          refine g_getfield lk_17_29 rfl (lay.on (by decide) rfl) (v := ((44 : Nat) : Int)) (lay.rf rfl) ?_
          refine g_iload lk_17_32 rfl ?_
          refine g_virtual (p := 44) (Qc := _) lk_17_34 rfl (Nat.le_of_ble_eq_true rfl) rfl rfl (lay.on (by decide) rfl) (Nat.le_of_ble_eq_true rfl) (Nat.le_of_ble_eq_true rfl) (Nat.zero_le _) (Nat.zero_le _) (ione) ?_
          rintro _ N4 ⟨rfl, hN4⟩
          rw [hN4]
          show Wp _ 17 37 [(2, ((98 : Nat) : Int)), (0, (rs : Int)), (0, (cs : Int)), (0, (dd : Int)), (0, (num T rs cs : Int)), (9, 0), (9, 0), (9, 0), (9, 0), (9, 0), (9, 0)] [(0, 0)] M _ _ _
          refine g_if (t := 65) lk_17_37 rfl (by first | (unfold pm_inI; omega) | exact pm_and_in _ _ | exact pm_shr_in _ _ | exact pm_or_in _ _ | exact pm_xor_in _ _ | exact pm_shl_in _ _ | exact pm_cmp_in _ _ | exact pm_b8_in _ | (unfold pm_inI; split <;> omega)) (fun _ => ?_) (fun h => absurd (show (0 : Int) = (0 : Int) by omega) h)
          refine g_aload_n lk_17_65 rfl ?_
          refine g_iload_n lk_17_66 rfl ?_
          refine g_iload_n lk_17_67 rfl ?_
          refine g_virtual (p := 98) (Qc := _) lk_17_68 rfl (Nat.le_of_ble_eq_true rfl) rfl rfl (lay.on (by decide) rfl) (Nat.le_of_ble_eq_true rfl) (Nat.le_of_ble_eq_true rfl) (Nat.zero_le _) (Nat.zero_le _) (tB1) ?_
          rintro _ K1 ⟨rfl, layB, pkB, fB, fB3, kB, isB⟩
          have hMA : TbAt K1 24 T := hM.fr fB (by decide) (by decide)
          have hAA : CA K1 T s 1 := hA.fr fB.gr (fB3 1 (by decide)) (fB3 2 (by decide)) (fun q => own_ne hA.1 (a := 44) rfl (List.mem_singleton.mp q).symm)
          have ewK : pm_ct K1 w = pm_ct M w := fB.ct (fun q => own_ne hw (a := 44) rfl (List.mem_singleton.mp q).symm)
          have tA1 := c_Best_talkOfA0 (d := d + n + 1) (mc := 0) (ms := 0) layB hT hMA hAA (by rw [fB.ct (by decide)]; exact i2) hw (by rw [fB.ct (by decide)]; exact i4) (fB.ay hay) hn hi.1 hi.2.1 hi.2.2.1 hi.2.2.2 (fun q a b => by rw [ewK]; exact hwo q cs a (by have := hi.2.1; omega) hi.2.2.1 hi.2.2.2)
          rw [← ewA, ← hxA] at tA1
          show Wp _ 17 71 [(2, ((98 : Nat) : Int)), (0, (rs : Int)), (0, (cs : Int)), (0, (dd : Int)), (0, (num T rs cs : Int)), (9, 0), (9, 0), (9, 0), (9, 0), (9, 0), (9, 0)] [(0, (xB : Int))] K1 _ _ _
          refine g_istore (ls' := [(2, ((98 : Nat) : Int)), (0, (rs : Int)), (0, (cs : Int)), (0, (dd : Int)), (0, (num T rs cs : Int)), (0, (xB : Int)), (9, 0), (9, 0), (9, 0), (9, 0), (9, 0)]) lk_17_71 rfl rfl ?_
          refine g_aload_n lk_17_73 rfl ?_
          refine g_getfield lk_17_74 rfl (layB.on (by decide) rfl) (v := ((44 : Nat) : Int)) (layB.rf rfl) ?_
          refine m_getfield (u := []) (M := K1) lk_17_77 rfl (layB.on (by decide) rfl) (v := (pkB : Int)) kB ?_
          refine g_istore (ls' := [(2, ((98 : Nat) : Int)), (0, (rs : Int)), (0, (cs : Int)), (0, (dd : Int)), (0, (num T rs cs : Int)), (0, (xB : Int)), (0, (pkB : Int)), (9, 0), (9, 0), (9, 0), (9, 0)]) lk_17_80 rfl rfl ?_
          refine g_aload_n lk_17_82 rfl ?_
          refine g_iload_n lk_17_83 rfl ?_
          refine g_iload_n lk_17_84 rfl ?_
          refine g_virtual (p := 98) (Qc := _) lk_17_85 rfl (Nat.le_of_ble_eq_true rfl) rfl rfl (layB.on (by decide) rfl) (Nat.le_of_ble_eq_true rfl) (Nat.le_of_ble_eq_true rfl) (Nat.zero_le _) (Nat.zero_le _) (tA1) ?_
          rintro _ K2 ⟨rfl, layA, pkA, fA, fA3, kA, isA⟩
          show Wp _ 17 88 [(2, ((98 : Nat) : Int)), (0, (rs : Int)), (0, (cs : Int)), (0, (dd : Int)), (0, (num T rs cs : Int)), (0, (xB : Int)), (0, (pkB : Int)), (9, 0), (9, 0), (9, 0), (9, 0)] [(0, (xA : Int))] K2 _ _ _
          refine g_istore (ls' := [(2, ((98 : Nat) : Int)), (0, (rs : Int)), (0, (cs : Int)), (0, (dd : Int)), (0, (num T rs cs : Int)), (0, (xB : Int)), (0, (pkB : Int)), (0, (xA : Int)), (9, 0), (9, 0), (9, 0)]) lk_17_88 rfl rfl ?_
          refine g_aload_n lk_17_90 rfl ?_
          refine g_getfield lk_17_91 rfl (layA.on (by decide) rfl) (v := ((44 : Nat) : Int)) (layA.rf rfl) ?_
          refine m_getfield (u := []) (M := K2) lk_17_94 rfl (layA.on (by decide) rfl) (v := (pkA : Int)) kA ?_
          refine g_istore (ls' := [(2, ((98 : Nat) : Int)), (0, (rs : Int)), (0, (cs : Int)), (0, (dd : Int)), (0, (num T rs cs : Int)), (0, (xB : Int)), (0, (pkB : Int)), (0, (xA : Int)), (0, (pkA : Int)), (9, 0), (9, 0)]) lk_17_97 rfl rfl ?_
          refine g_iload lk_17_99 rfl ?_
          refine g_iload lk_17_101 rfl ?_
          refine g_icmp (t := 110) lk_17_103 rfl (by first | (unfold pm_inI; omega) | exact pm_and_in _ _ | exact pm_shr_in _ _ | exact pm_or_in _ _ | exact pm_xor_in _ _ | exact pm_shl_in _ _ | exact pm_cmp_in _ _ | exact pm_b8_in _ | (unfold pm_inI; split <;> omega)) (by first | (unfold pm_inI; omega) | exact pm_and_in _ _ | exact pm_shr_in _ _ | exact pm_or_in _ _ | exact pm_xor_in _ _ | exact pm_shl_in _ _ | exact pm_cmp_in _ _ | exact pm_b8_in _ | (unfold pm_inI; split <;> omega)) (fun h5 => ?_) (fun h5 => ?_)
          · replace h5 : (xB : Int) < (xA : Int) := h5
            refine g_iconst lk_17_110 ?_
            refine g_istore (ls' := [(2, ((98 : Nat) : Int)), (0, (rs : Int)), (0, (cs : Int)), (0, (dd : Int)), (0, (num T rs cs : Int)), (0, (xB : Int)), (0, (pkB : Int)), (0, (xA : Int)), (0, (pkA : Int)), (0, 0), (9, 0)]) lk_17_111 rfl rfl ?_
            have hx : ¬ xA ≤ xB := by omega
            obtain ⟨e1, e2, e3, -⟩ := isB.eq (pick_B hT hi hal (by rw [← hxA, ← hxB]; exact hx))
            exact k113 K2 0 pkA pkB _ _ layA (fB.trans fA) (fun j hj => (fA3 j hj).trans (fB3 j hj)) (Or.inr ⟨rfl, hx, e1, e2, e3⟩)
          · replace h5 : ¬ ((xB : Int) < (xA : Int)) := h5
            refine g_iconst lk_17_106 ?_
            refine g_goto (t := 111) lk_17_107 rfl ?_
            refine g_istore (ls' := [(2, ((98 : Nat) : Int)), (0, (rs : Int)), (0, (cs : Int)), (0, (dd : Int)), (0, (num T rs cs : Int)), (0, (xB : Int)), (0, (pkB : Int)), (0, (xA : Int)), (0, (pkA : Int)), (0, 1), (9, 0)]) lk_17_111 rfl rfl ?_
            have hx : xA ≤ xB := by omega
            obtain ⟨e1, e2, e3, -⟩ := isA.eq (pick_A hT hi hal (by rw [← hxA, ← hxB]; exact hx))
            exact k113 K2 1 pkA pkB _ _ layA (fB.trans fA) (fun j hj => (fA3 j hj).trans (fB3 j hj)) (Or.inl ⟨rfl, hx, e1, e2, e3⟩)
        · replace h3 : ¬ ((num T rs cs : Int) < ((nw : Nat) : Int)) := h3
          refine g_return lk_17_27 ?_
          omega
theorem c_Nodes_add1 {d mc ms : Nat} {M : pm_M} (lay : Lay M) {k x y : Nat} (hk : pm_ct M 106 3 = (k : Int)) (k71 : k < 71) :
    pm_E d 36 [(2, ((106 : Nat) : Int)), (0, (x : Int)), (0, (y : Int))] M mc ms (fun ρ M' => ρ = some (0, (k : Int)) ∧ Lay M' ∧ Fr [106, 107, 108, 109] M M' ∧ pm_ct M' 106 3 = ((k + 1 : Nat) : Int) ∧ pm_ct M' 107 = pm_upd (pm_ct M 107) k (x : Int) ∧ pm_ct M' 108 = pm_upd (pm_ct M 108) k (y : Int) ∧ pm_ct M' 109 = pm_upd (pm_ct M 109) k (-1)) := by
  show Wp d 36 0 [(2, ((106 : Nat) : Int)), (0, (x : Int)), (0, (y : Int))] [] M mc ms _
  refine g_aload_n lk_36_0 rfl ?_
  refine m_getfield (u := []) (M := M) lk_36_1 rfl (lay.on (by decide) rfl) (v := (k : Int)) hk ?_
  refine g_aload_n lk_36_4 rfl ?_
  refine g_getfield lk_36_5 rfl (lay.on (by decide) rfl) (v := ((107 : Nat) : Int)) (lay.rf rfl) ?_
  refine g_arraylength (n := 71) lk_36_8 (by decide) (lay.ay (by decide) rfl) ?_
  refine g_icmp (t := 14) lk_36_9 rfl (by first | (unfold pm_inI; omega) | exact pm_and_in _ _ | exact pm_shr_in _ _ | exact pm_or_in _ _ | exact pm_xor_in _ _ | exact pm_shl_in _ _ | exact pm_cmp_in _ _ | exact pm_b8_in _ | (unfold pm_inI; split <;> omega)) (by first | (unfold pm_inI; omega) | exact pm_and_in _ _ | exact pm_shr_in _ _ | exact pm_or_in _ _ | exact pm_xor_in _ _ | exact pm_shl_in _ _ | exact pm_cmp_in _ _ | exact pm_b8_in _ | (unfold pm_inI; split <;> omega)) (fun h1 => ?_) (fun h1 => ?_)
  · replace h1 : (k : Int) < 71 := h1
    refine g_aload_n lk_36_14 rfl ?_
    refine g_getfield lk_36_15 rfl (lay.on (by decide) rfl) (v := ((107 : Nat) : Int)) (lay.rf rfl) ?_
    refine g_aload_n lk_36_18 rfl ?_
    refine m_getfield (u := []) (M := M) lk_36_19 rfl (lay.on (by decide) rfl) (v := (k : Int)) hk ?_
    refine g_iload_n lk_36_22 rfl ?_
    have lay2 : Lay (Mu [(107, pm_upd (pm_ct M 107) k (x : Int))] M) := lay.muA (l := []) (a := 107) (f := pm_upd (pm_ct M 107) k (x : Int)) rfl rfl
    refine m_iastore (u := []) (u' := [(107, pm_upd (pm_ct M 107) k (x : Int))]) (M := M) lk_36_23 (lay.ay (by decide) rfl) (by omega) (j := k) (by omega) rfl ?_
    refine g_aload_n lk_36_24 rfl ?_
    refine g_getfield lk_36_25 rfl (lay2.on (by decide) rfl) (v := ((108 : Nat) : Int)) (lay2.rf rfl) ?_
    refine g_aload_n lk_36_28 rfl ?_
    refine m_getfield (u := [(107, pm_upd (pm_ct M 107) k (x : Int))]) (M := M) lk_36_29 rfl (lay2.on (by decide) rfl) (v := (k : Int)) hk ?_
    refine g_iload_n lk_36_32 rfl ?_
    have lay3 : Lay (Mu [(107, pm_upd (pm_ct M 107) k (x : Int)), (108, pm_upd (pm_ct M 108) k (y : Int))] M) := lay2.muA (l := [(107, pm_upd (pm_ct M 107) k (x : Int))]) (a := 108) (f := pm_upd (pm_ct M 108) k (y : Int)) rfl rfl
    refine m_iastore (u := [(107, pm_upd (pm_ct M 107) k (x : Int))]) (u' := [(107, pm_upd (pm_ct M 107) k (x : Int)), (108, pm_upd (pm_ct M 108) k (y : Int))]) (M := M) lk_36_33 (lay2.ay (by decide) rfl) (by omega) (j := k) (by omega) rfl ?_
    refine g_aload_n lk_36_34 rfl ?_
    refine g_getfield lk_36_35 rfl (lay3.on (by decide) rfl) (v := ((109 : Nat) : Int)) (lay3.rf rfl) ?_
    refine g_aload_n lk_36_38 rfl ?_
    refine m_getfield (u := [(107, pm_upd (pm_ct M 107) k (x : Int)), (108, pm_upd (pm_ct M 108) k (y : Int))]) (M := M) lk_36_39 rfl (lay3.on (by decide) rfl) (v := (k : Int)) hk ?_
    refine g_iconst lk_36_42 ?_
    have lay4 : Lay (Mu [(107, pm_upd (pm_ct M 107) k (x : Int)), (108, pm_upd (pm_ct M 108) k (y : Int)), (109, pm_upd (pm_ct M 109) k (-1))] M) := lay3.muA (l := [(107, pm_upd (pm_ct M 107) k (x : Int)), (108, pm_upd (pm_ct M 108) k (y : Int))]) (a := 109) (f := pm_upd (pm_ct M 109) k (-1)) rfl rfl
    refine m_iastore (u := [(107, pm_upd (pm_ct M 107) k (x : Int)), (108, pm_upd (pm_ct M 108) k (y : Int))]) (u' := [(107, pm_upd (pm_ct M 107) k (x : Int)), (108, pm_upd (pm_ct M 108) k (y : Int)), (109, pm_upd (pm_ct M 109) k (-1))]) (M := M) lk_36_43 (lay3.ay (by decide) rfl) (by omega) (j := k) (by omega) rfl ?_
    refine g_aload_n lk_36_44 rfl ?_
    refine g_dup lk_36_45 rfl ?_
    refine m_getfield (u := [(107, pm_upd (pm_ct M 107) k (x : Int)), (108, pm_upd (pm_ct M 108) k (y : Int)), (109, pm_upd (pm_ct M 109) k (-1))]) (M := M) lk_36_46 rfl (lay4.on (by decide) rfl) (v := (k : Int)) hk ?_
    refine g_iconst lk_36_49 ?_
    refine g_iadd lk_36_50 ?_
    have lay5 : Lay (Mu [(107, pm_upd (pm_ct M 107) k (x : Int)), (108, pm_upd (pm_ct M 108) k (y : Int)), (109, pm_upd (pm_ct M 109) k (-1)), (106, pm_upd (pm_ct M 106) 3 ((k : Int) + 1))] M) := lay4.muF (l := [(107, pm_upd (pm_ct M 107) k (x : Int)), (108, pm_upd (pm_ct M 108) k (y : Int)), (109, pm_upd (pm_ct M 109) k (-1))]) (a := 106) (k := 3) (z := ((k : Int) + 1)) rfl rfl
    refine m_putfield (u := [(107, pm_upd (pm_ct M 107) k (x : Int)), (108, pm_upd (pm_ct M 108) k (y : Int)), (109, pm_upd (pm_ct M 109) k (-1))]) (u' := [(107, pm_upd (pm_ct M 107) k (x : Int)), (108, pm_upd (pm_ct M 108) k (y : Int)), (109, pm_upd (pm_ct M 109) k (-1)), (106, pm_upd (pm_ct M 106) 3 ((k : Int) + 1))]) (M := M) lk_36_51 rfl (lay4.on (by decide) rfl) (fun h => absurd h (by decide)) rfl ?_
    refine g_aload_n lk_36_54 rfl ?_
    refine m_getfield (u := [(107, pm_upd (pm_ct M 107) k (x : Int)), (108, pm_upd (pm_ct M 108) k (y : Int)), (109, pm_upd (pm_ct M 109) k (-1)), (106, pm_upd (pm_ct M 106) 3 ((k : Int) + 1))]) (M := M) lk_36_55 rfl (lay5.on (by decide) rfl) (v := ((k : Int) + 1)) rfl ?_
    refine g_iconst lk_36_58 ?_
    refine g_isub lk_36_59 ?_
    refine g_ireturn lk_36_60 (fun h => absurd h (by decide)) ?_
    refine ⟨?_, lay5, Fr.mu _ _ rfl, by rw [Mu_ct]; rfl, by rw [Mu_ct]; rfl, by rw [Mu_ct]; rfl, by rw [Mu_ct]; rfl⟩
    congr 2
    omega
  · replace h1 : ¬ ((k : Int) < 71) := h1
    refine g_iconst lk_36_12 ?_
    refine g_ireturn lk_36_13 (fun h => absurd h (by decide)) ?_
    omega
set_option maxHeartbeats 8000000 in
theorem c_Best_grow1 {T : Tab} (hT : TabOK T) : ∀ (n d mc ms rs cs dd : Nat) (M : pm_M) (L : List Nd) (s w : Nat), inT T rs cs → pop rs + pop cs ≤ n → dd + n ≤ 12 → Lay M → TbAt M 24 T → CA M T s 1 → CB M T 1 104 w 1 → s ≠ w → pm_ct M 106 3 = (L.length : Int) → NdL M 107 108 109 L → L.length + (gt T 1 n rs cs L.length).length ≤ 71 →
    pm_E (d + n + 3) 17 [(2, ((104 : Nat) : Int)), (0, (rs : Int)), (0, (cs : Int)), (0, (dd : Int))] M mc ms (fun ρ M' => ρ = none ∧ Lay M' ∧ Fr [44, 106, 107, 108, 109] M M' ∧ (∀ j, j ≠ 3 → pm_ct M' 44 j = pm_ct M 44 j) ∧ pm_ct M' 106 3 = ((L ++ gt T 1 n rs cs L.length).length : Int) ∧ NdL M' 107 108 109 (L ++ gt T 1 n rs cs L.length)) := by
  intro n
  induction n with
  | zero =>
    intro d mc ms rs cs dd M L s w hi hp
    obtain ⟨h1, h2⟩ := hi.r hT
    have popp : ∀ s : Fin 64, (s : Nat) ≠ 0 → 1 ≤ pop (s : Nat) := by decide +kernel
    have r1 : 1 ≤ pop rs := popp ⟨rs, h1⟩ (by have := hi.1; show rs ≠ 0; omega)
    omega
  | succ n ih =>
    intro d mc ms rs cs dd M L s w hi hp hdd lay hM hA hB hsw hct hL h71
    obtain ⟨Q, hQ⟩ : ∃ Q : pm_Q, Q = (fun ρ M' => ρ = none ∧ Lay M' ∧ Fr [44, 106, 107, 108, 109] M M' ∧ (∀ j, j ≠ 3 → pm_ct M' 44 j = pm_ct M 44 j) ∧ pm_ct M' 106 3 = ((L ++ gt T 1 (n + 1) rs cs L.length).length : Int) ∧ NdL M' 107 108 109 (L ++ gt T 1 (n + 1) rs cs L.length)) := ⟨_, rfl⟩
    rw [← hQ]
    obtain ⟨r64, c64⟩ := hi.r hT
    have nl := num_lt (T := T) hi.2.1 hi.2.2.2
    have r9 := hi.2.1
    have c9 := hi.2.2.2
    obtain ⟨hw, i4, i5, i2, _, nw, n4, hay, hf⟩ := id hB
    obtain ⟨hn, hwo⟩ := hf rfl
    obtain ⟨k, hk⟩ : ∃ k, k = L.length := ⟨_, rfl⟩
    rw [← hk] at hct h71 hQ
    have vl := vIn_lt T rs cs
    have m44 : ∀ {A B : pm_M}, Fr [44] A B → Fr [44, 106, 107, 108, 109] A B := fun h => h.mono (fun a q => by simp at q; simp [q])
    have mN : ∀ {A B : pm_M}, Fr [106, 107, 108, 109] A B → Fr [44, 106, 107, 108, 109] A B := fun h => h.mono (fun a q => by simp at q; simp; omega)
    have nn : ∀ a, (a == 45 || a == 49 || a == 50 || a == 53 || a == 99 || a == 105 || a == 111 || Nat.ble 157 a) = true → a ∉ [44, 106, 107, 108, 109] := fun a h q => by
      simp at q
      rcases q with q | q | q | q | q <;> (subst q; cases h)
    have own_b : ∀ {a : Nat}, own a → (a == 45 || a == 49 || a == 50 || a == 53 || a == 99 || a == 105 || a == 111 || Nat.ble 157 a) = true := fun {a} h => by
      rcases h with h | h | h | h | h | h | h | h
      all_goals first | (subst h; rfl) | skip
      rw [show Nat.ble 157 a = true from Nat.ble_eq.mpr h]; simp
    have M157 := lay.1
    have keepA : ∀ {N : pm_M}, Fr [44, 106, 107, 108, 109] M N → (∀ j, j ≠ 3 → pm_ct N 44 j = pm_ct M 44 j) → TbAt N 24 T ∧ CA N T s 1 ∧ CB N T 1 104 w 1 := fun f q => ⟨hM.fr f (by decide) (by decide), hA.fr f.gr (q 1 (by decide)) (q 2 (by decide)) (nn s (own_b hA.1)), hB.fr f.gr (by omega) (by decide) (nn w (own_b hw))⟩
    by_cases hal : pop (vIn T rs cs) < 2
    · have eg := gt_leaf (T := T) (h := 1) (n := n) (rs := rs) (cs := cs) (k := k) hal
      rw [eg] at hQ h71
      have ione := c_Areas_isOneValue (d := d + n + 2) (mc := 0) (ms := 0) lay hT hA hi.1 hi.2.1 hi.2.2.1 hi.2.2.2
      rw [if_pos hal] at ione
      have ov := c_X_onlyValue (d := d + n + 1) (mc := 0) (ms := 0) (M := M) vl hal
      have f10 : vIn T rs cs ≠ 0 → fstb (vIn T rs cs) < 10 := fun h => by
        have tb : ∀ v : Fin 1024, (v : Nat) ≠ 0 → fstb (v : Nat) < 10 := by decide +kernel
        exact tb ⟨vIn T rs cs, vl⟩ h
      obtain ⟨z, hz⟩ : ∃ z : Int, z = (if vIn T rs cs = 0 then (10 : Int) else (fstb (vIn T rs cs) : Int)) := ⟨_, rfl⟩
      rw [← hz] at ov
      have zr : 0 ≤ z ∧ z ≤ 10 := by
        rw [hz]
        by_cases e : vIn T rs cs = 0
        · rw [if_pos e]; omega
        · rw [if_neg e]; have := f10 e; omega
      have e10 : z.tmod 10 = (lfv T rs cs : Int) := by
        rw [hz]
        unfold lfv
        by_cases e : vIn T rs cs = 0
        · rw [if_pos e, if_pos e]; rfl
        · rw [if_neg e, if_neg e]
          have := f10 e
          rw [Int.tmod_eq_of_lt (by omega) (by omega)]
      show Wp (d + (n + 1) + 3) 17 0 [(2, ((104 : Nat) : Int)), (0, (rs : Int)), (0, (cs : Int)), (0, (dd : Int)), (9, 0), (9, 0), (9, 0), (9, 0), (9, 0), (9, 0), (9, 0)] [] M mc ms Q
      refine g_aload_n lk_17_0 rfl ?_
      refine g_getfield lk_17_1 rfl (lay.on (by decide) rfl) (v := ((44 : Nat) : Int)) (lay.rf rfl) ?_
      refine g_iload_n lk_17_4 rfl ?_
      refine g_iload_n lk_17_5 rfl ?_
      refine g_virtual (p := 44) (Qc := _) lk_17_6 rfl (Nat.le_of_ble_eq_true rfl) rfl rfl (lay.on (by decide) rfl) (Nat.le_of_ble_eq_true rfl) (Nat.le_of_ble_eq_true rfl) (Nat.zero_le _) (Nat.zero_le _) (c_Areas_numberOf lay hT hM (by omega) (by omega)) ?_
      rintro _ N1 ⟨rfl, hN1⟩
      rw [hN1]
      show Wp _ 17 9 [(2, ((104 : Nat) : Int)), (0, (rs : Int)), (0, (cs : Int)), (0, (dd : Int)), (9, 0), (9, 0), (9, 0), (9, 0), (9, 0), (9, 0), (9, 0)] [(0, (num T rs cs : Int))] M _ _ _
      refine g_istore (ls' := [(2, ((104 : Nat) : Int)), (0, (rs : Int)), (0, (cs : Int)), (0, (dd : Int)), (0, (num T rs cs : Int)), (9, 0), (9, 0), (9, 0), (9, 0), (9, 0), (9, 0)]) lk_17_9 rfl rfl ?_
      refine g_iload_n lk_17_11 rfl ?_
      refine g_bipush lk_17_12 ?_
      refine g_icmp (t := 27) lk_17_14 rfl (by first | (unfold pm_inI; omega) | exact pm_and_in _ _ | exact pm_shr_in _ _ | exact pm_or_in _ _ | exact pm_xor_in _ _ | exact pm_shl_in _ _ | exact pm_cmp_in _ _ | exact pm_b8_in _ | (unfold pm_inI; split <;> omega)) (by first | (unfold pm_inI; omega) | exact pm_and_in _ _ | exact pm_shr_in _ _ | exact pm_or_in _ _ | exact pm_xor_in _ _ | exact pm_shl_in _ _ | exact pm_cmp_in _ _ | exact pm_b8_in _ | (unfold pm_inI; split <;> omega)) (fun h2 => ?_) (fun h2 => ?_)
      · replace h2 : 12 < (dd : Int) := h2
        refine g_return lk_17_27 ?_
        omega
      · replace h2 : ¬ (12 < (dd : Int)) := h2
        refine g_iload lk_17_17 rfl ?_
        refine g_aload_n lk_17_19 rfl ?_
        refine m_getfield (u := []) (M := M) lk_17_20 rfl (lay.on (by decide) rfl) (v := ((w : Nat) : Int)) i4 ?_
        refine g_arraylength (n := nw) lk_17_23 (by decide) hay ?_
        refine g_icmp (t := 28) lk_17_24 rfl (by first | (unfold pm_inI; omega) | exact pm_and_in _ _ | exact pm_shr_in _ _ | exact pm_or_in _ _ | exact pm_xor_in _ _ | exact pm_shl_in _ _ | exact pm_cmp_in _ _ | exact pm_b8_in _ | (unfold pm_inI; split <;> omega)) (by first | (unfold pm_inI; omega) | exact pm_and_in _ _ | exact pm_shr_in _ _ | exact pm_or_in _ _ | exact pm_xor_in _ _ | exact pm_shl_in _ _ | exact pm_cmp_in _ _ | exact pm_b8_in _ | (unfold pm_inI; split <;> omega)) (fun h3 => ?_) (fun h3 => ?_)
        · replace h3 : (num T rs cs : Int) < ((nw : Nat) : Int) := h3
          refine g_aload_n lk_17_28 rfl ?_
          refine g_getfield lk_17_29 rfl (lay.on (by decide) rfl) (v := ((44 : Nat) : Int)) (lay.rf rfl) ?_
          refine g_iload lk_17_32 rfl ?_
          refine g_virtual (p := 44) (Qc := _) lk_17_34 rfl (Nat.le_of_ble_eq_true rfl) rfl rfl (lay.on (by decide) rfl) (Nat.le_of_ble_eq_true rfl) (Nat.le_of_ble_eq_true rfl) (Nat.zero_le _) (Nat.zero_le _) (ione) ?_
          rintro _ N4 ⟨rfl, hN4⟩
          rw [hN4]
          show Wp _ 17 37 [(2, ((104 : Nat) : Int)), (0, (rs : Int)), (0, (cs : Int)), (0, (dd : Int)), (0, (num T rs cs : Int)), (9, 0), (9, 0), (9, 0), (9, 0), (9, 0), (9, 0)] [(0, 1)] M _ _ _
          refine g_if (t := 65) lk_17_37 rfl (by first | (unfold pm_inI; omega) | exact pm_and_in _ _ | exact pm_shr_in _ _ | exact pm_or_in _ _ | exact pm_xor_in _ _ | exact pm_shl_in _ _ | exact pm_cmp_in _ _ | exact pm_b8_in _ | (unfold pm_inI; split <;> omega)) (fun h => absurd h (show ¬ ((1 : Int) = (0 : Int)) by omega)) (fun _ => ?_)
          refine g_aload_n lk_17_40 rfl ?_
          refine g_getfield lk_17_41 rfl (lay.on (by decide) rfl) (v := ((106 : Nat) : Int)) (lay.rf rfl) ?_
          refine g_iconst lk_17_44 ?_
          refine g_aload_n lk_17_45 rfl ?_
          refine g_getfield lk_17_46 rfl (lay.on (by decide) rfl) (v := ((44 : Nat) : Int)) (lay.rf rfl) ?_
          refine g_iload lk_17_49 rfl ?_
          refine g_virtual (p := 44) (Qc := _) lk_17_51 rfl (Nat.le_of_ble_eq_true rfl) rfl rfl (lay.on (by decide) rfl) (Nat.le_of_ble_eq_true rfl) (Nat.le_of_ble_eq_true rfl) (Nat.zero_le _) (Nat.zero_le _) (c_Areas_valuesOf lay hT hA hi.1 hi.2.1 hi.2.2.1 hi.2.2.2) ?_
          rintro _ N5 ⟨rfl, hN5⟩
          rw [hN5]
          show Wp _ 17 54 [(2, ((104 : Nat) : Int)), (0, (rs : Int)), (0, (cs : Int)), (0, (dd : Int)), (0, (num T rs cs : Int)), (9, 0), (9, 0), (9, 0), (9, 0), (9, 0), (9, 0)] [(0, (vIn T rs cs : Int)), (0, 0), (2, ((106 : Nat) : Int))] M _ _ _
          refine g_static (Qc := _) lk_17_54 (by decide) rfl (Nat.le_of_ble_eq_true rfl) rfl rfl (Nat.le_of_ble_eq_true rfl) (Nat.le_of_ble_eq_true rfl) (Nat.zero_le _) (Nat.zero_le _) (ov) ?_
          rintro _ N6 ⟨rfl, hN6⟩
          rw [hN6]
          show Wp _ 17 57 [(2, ((104 : Nat) : Int)), (0, (rs : Int)), (0, (cs : Int)), (0, (dd : Int)), (0, (num T rs cs : Int)), (9, 0), (9, 0), (9, 0), (9, 0), (9, 0), (9, 0)] [(0, z), (0, 0), (2, ((106 : Nat) : Int))] M _ _ _
          refine g_bipush lk_17_57 ?_
          refine g_irem lk_17_59 (by unfold pm_inI; omega) (by unfold pm_inI; omega) (by omega) ?_
          refine g_top (z := (z.tmod 10)) (z' := (lfv T rs cs : Int)) (e10) ?_
          refine g_virtual (p := 106) (Qc := _) lk_17_60 rfl (Nat.le_of_ble_eq_true rfl) rfl rfl (lay.on (by decide) rfl) (Nat.le_of_ble_eq_true rfl) (Nat.le_of_ble_eq_true rfl) (Nat.zero_le _) (Nat.zero_le _) (c_Nodes_add1 (x := 0) lay hct (by show k < 71; have : ([(0, lfv T rs cs, (-1 : Int))] : List Nd).length = 1 := rfl; omega)) ?_
          rintro _ K1 ⟨rfl, lay1, f1, c1, c2, c3, c4⟩
          show Wp _ 17 63 [(2, ((104 : Nat) : Int)), (0, (rs : Int)), (0, (cs : Int)), (0, (dd : Int)), (0, (num T rs cs : Int)), (9, 0), (9, 0), (9, 0), (9, 0), (9, 0), (9, 0)] [(0, (k : Int))] K1 _ _ _
          refine g_pop lk_17_63 rfl ?_
          refine g_return lk_17_64 ?_
          rw [hQ]
          refine ⟨rfl, lay1, mN f1, fun j _ => by rw [f1.ct (by decide)], ?_, ?_⟩
          · rw [c1, List.length_append, ← hk]; rfl
          · exact hL.push hk c2 c3 c4
        · replace h3 : ¬ ((num T rs cs : Int) < ((nw : Nat) : Int)) := h3
          refine g_return lk_17_27 ?_
          omega
    · have ione := c_Areas_isOneValue (d := d + n + 2) (mc := 0) (ms := 0) lay hT hA hi.1 hi.2.1 hi.2.2.1 hi.2.2.2
      rw [if_neg hal] at ione
      have tB1 := c_Best_talkOfB1 (d := d + n + 1) (mc := 0) (ms := 0) lay hT hM hA i2 hw i4 hay hn hi.1 hi.2.1 hi.2.2.1 hi.2.2.2 (fun q a b => hwo rs q hi.1 hi.2.1 a (by have := hi.2.2.2; omega))
      have p1 := spl_far (sb 1) (fun q => BW T 1 q cs) rs
      have p2 := spl_far (sb 1) (fun q => BW T 1 rs q) cs
      have p3 := prc_le hT hT.2.2.2.1.2 1 rs cs
      have p4 := prc_le hT hT.2.2.2.2.2 1 rs cs
      have ewA : wA T 1 rs cs = spl (sb 1) (fun q => BW T 1 q cs) rs + prc T 1 (tA T) rs cs := rfl
      have ewB : wB T 1 rs cs = spl (sb 1) (fun q => BW T 1 rs q) cs + prc T 1 (tB T) rs cs := rfl
      obtain ⟨xA, hxA⟩ : ∃ x, x = wA T 1 rs cs := ⟨_, rfl⟩
      obtain ⟨xB, hxB⟩ : ∃ x, x = wB T 1 rs cs := ⟨_, rfl⟩
      rw [← ewB, ← hxB] at tB1
      -- the split is known: one node, its parts
      have k113 : ∀ (K : pm_M) (ia sA sB : Nat) (z5 z7 : Int), Lay K → Fr [44] M K → (∀ j, j ≠ 3 → pm_ct K 44 j = pm_ct M 44 j) → (ia = 1 ∧ xA ≤ xB ∧ sA = pA T 1 rs cs ∧ sA < rs ∧ spC rs sA = true ∨ ia = 0 ∧ ¬ xA ≤ xB ∧ sB = pB' T 1 rs cs ∧ sB < cs ∧ spC cs sB = true) → Wp (d + (n + 1) + 3) 17 113 [(2, ((104 : Nat) : Int)), (0, (rs : Int)), (0, (cs : Int)), (0, (dd : Int)), (0, (num T rs cs : Int)), (0, z5), (0, (sB : Int)), (0, z7), (0, (sA : Int)), (0, (ia : Int)), (9, 0)] [] K mc ms Q := by
        intro K ia sA sB z5 z7 layK fK k44 hc
        have hctK : pm_ct K 106 3 = (k : Int) := by rw [fK.ct (by decide)]; exact hct
        have hLK : NdL K 107 108 109 L := hL.of (fK.ct (by decide)) (fK.ct (by decide)) (fK.ct (by decide))
        rcases hc with ⟨rfl, hx, hs1, hs2, hs3⟩ | ⟨rfl, hx, hs1, hs2, hs3⟩
        · obtain ⟨y1, y2, -, -, y5, y6, y7⟩ := spC_s r64 (by have := hi.1; omega) hs2 hs3
          have eg := gt_A (T := T) (h := 1) (n := n) (rs := rs) (cs := cs) (k := k) hal (by rw [← hxA, ← hxB]; exact hx)
          rw [← hs1] at eg
          rw [eg] at hQ h71
          obtain ⟨G1, hG1⟩ : ∃ G, G = gt T 1 n sA cs (k + 1) := ⟨_, rfl⟩
          obtain ⟨G2, hG2⟩ : ∃ G, G = gt T 1 n (rs - sA) cs (k + 1 + G1.length) := ⟨_, rfl⟩
          rw [← hG1, ← hG2] at hQ h71
          rw [List.length_cons, List.length_append] at h71
          have in1 : inT T sA cs := ⟨y1, by have := hi.2.1; omega, hi.2.2.1, hi.2.2.2⟩
          have in2 : inT T (rs - sA) cs := ⟨y2, by have := hi.2.1; omega, hi.2.2.1, hi.2.2.2⟩
          have xr : pm_xor (rs : Int) (sA : Int) = ((rs - sA : Nat) : Int) := xor_tab ⟨rs, r64⟩ ⟨sA, by omega⟩ (spC_sub hs3)
          obtain ⟨r2, hr2⟩ : ∃ r, r = rs - sA := ⟨_, rfl⟩
          rw [← hr2] at xr in2 hG2 y5 y7
          refine g_aload_n lk_17_113 rfl ?_
          refine g_getfield lk_17_114 rfl (layK.on (by decide) rfl) (v := ((106 : Nat) : Int)) (layK.rf rfl) ?_
          refine g_iload lk_17_117 rfl ?_
          refine g_if (t := 126) lk_17_119 rfl (by first | (unfold pm_inI; omega) | exact pm_and_in _ _ | exact pm_shr_in _ _ | exact pm_or_in _ _ | exact pm_xor_in _ _ | exact pm_shl_in _ _ | exact pm_cmp_in _ _ | exact pm_b8_in _ | (unfold pm_inI; split <;> omega)) (fun h => absurd h (show ¬ ((1 : Int) = (0 : Int)) by omega)) (fun _ => ?_)
          refine g_iconst lk_17_122 ?_
          refine g_goto (t := 127) lk_17_123 rfl ?_
          refine g_iload lk_17_127 rfl ?_
          refine g_if (t := 137) lk_17_129 rfl (by first | (unfold pm_inI; omega) | exact pm_and_in _ _ | exact pm_shr_in _ _ | exact pm_or_in _ _ | exact pm_xor_in _ _ | exact pm_shl_in _ _ | exact pm_cmp_in _ _ | exact pm_b8_in _ | (unfold pm_inI; split <;> omega)) (fun h => absurd h (show ¬ ((1 : Int) = (0 : Int)) by omega)) (fun _ => ?_)
          refine g_iload lk_17_132 rfl ?_
          refine g_goto (t := 139) lk_17_134 rfl ?_
          refine g_virtual (p := 106) (Qc := _) lk_17_139 rfl (Nat.le_of_ble_eq_true rfl) rfl rfl (layK.on (by decide) rfl) (Nat.le_of_ble_eq_true rfl) (Nat.le_of_ble_eq_true rfl) (Nat.zero_le _) (Nat.zero_le _) (c_Nodes_add1 (x := 1) (y := sA) layK hctK (by omega)) ?_
          rintro _ K1 ⟨rfl, lay1, f1, c1, c2, c3, c4⟩
          have F1 : Fr [44, 106, 107, 108, 109] M K1 := (m44 fK).trans (mN f1)
          have q1 : ∀ j, j ≠ 3 → pm_ct K1 44 j = pm_ct M 44 j := (fun j hj => by rw [f1.ct (by decide)]; exact k44 j hj)
          have L1 : NdL K1 107 108 109 (L ++ [(1, sA, -1)]) := hLK.push hk c2 c3 c4
          have e1 : (L ++ [((1, sA, -1) : Nd)]).length = k + 1 := (by rw [List.length_append, ← hk]; rfl)
          have g1 := ih d 0 0 sA cs (dd + 1) K1 (L ++ [(1, sA, -1)]) s w in1 (by omega) (by omega) lay1 (keepA F1 q1).1 (keepA F1 q1).2.1 (keepA F1 q1).2.2 hsw (by rw [e1]; exact c1) L1 (by rw [e1, ← hG1]; omega)
          rw [e1, ← hG1] at g1
          rw [show d + n + 3 = d + (n + 1) + 2 by omega] at g1
          show Wp _ 17 142 [(2, ((104 : Nat) : Int)), (0, (rs : Int)), (0, (cs : Int)), (0, (dd : Int)), (0, (num T rs cs : Int)), (0, z5), (0, (sB : Int)), (0, z7), (0, (sA : Int)), (0, 1), (9, 0)] [(0, (k : Int))] K1 _ _ _
          refine g_istore (ls' := [(2, ((104 : Nat) : Int)), (0, (rs : Int)), (0, (cs : Int)), (0, (dd : Int)), (0, (num T rs cs : Int)), (0, z5), (0, (sB : Int)), (0, z7), (0, (sA : Int)), (0, 1), (0, (k : Int))]) lk_17_142 rfl rfl ?_
          refine g_iload lk_17_144 rfl ?_
          refine g_if (t := 150) lk_17_146 rfl (by first | (unfold pm_inI; omega) | exact pm_and_in _ _ | exact pm_shr_in _ _ | exact pm_or_in _ _ | exact pm_xor_in _ _ | exact pm_shl_in _ _ | exact pm_cmp_in _ _ | exact pm_b8_in _ | (unfold pm_inI; split <;> omega)) (fun h1 => ?_) (fun h1 => ?_)
          · replace h1 : 0 ≤ (k : Int) := h1
            refine g_aload_n lk_17_150 rfl ?_
            refine g_iload lk_17_151 rfl ?_
            refine g_if (t := 161) lk_17_153 rfl (by first | (unfold pm_inI; omega) | exact pm_and_in _ _ | exact pm_shr_in _ _ | exact pm_or_in _ _ | exact pm_xor_in _ _ | exact pm_shl_in _ _ | exact pm_cmp_in _ _ | exact pm_b8_in _ | (unfold pm_inI; split <;> omega)) (fun h => absurd h (show ¬ ((1 : Int) = (0 : Int)) by omega)) (fun _ => ?_)
            refine g_iload lk_17_156 rfl ?_
            refine g_goto (t := 162) lk_17_158 rfl ?_
            refine g_iload lk_17_162 rfl ?_
            refine g_if (t := 171) lk_17_164 rfl (by first | (unfold pm_inI; omega) | exact pm_and_in _ _ | exact pm_shr_in _ _ | exact pm_or_in _ _ | exact pm_xor_in _ _ | exact pm_shl_in _ _ | exact pm_cmp_in _ _ | exact pm_b8_in _ | (unfold pm_inI; split <;> omega)) (fun h => absurd h (show ¬ ((1 : Int) = (0 : Int)) by omega)) (fun _ => ?_)
            refine g_iload_n lk_17_167 rfl ?_
            refine g_goto (t := 173) lk_17_168 rfl ?_
            refine g_iload_n lk_17_173 rfl ?_
            refine g_iconst lk_17_174 ?_
            refine g_iadd lk_17_175 ?_
            refine g_virtual (p := 104) (Qc := _) lk_17_176 rfl (Nat.le_of_ble_eq_true rfl) rfl rfl (lay1.on (by decide) rfl) (Nat.le_of_ble_eq_true rfl) (Nat.le_of_ble_eq_true rfl) (Nat.zero_le _) (Nat.zero_le _) (g1) ?_
            rintro _ K2 ⟨rfl, lay2, f2, q2, d1, L2⟩
            rw [List.length_append, e1] at d1
            have F2 : Fr [44, 106, 107, 108, 109] M K2 := F1.trans f2
            have q2' : ∀ j, j ≠ 3 → pm_ct K2 44 j = pm_ct M 44 j := (fun j hj => (q2 j hj).trans (q1 j hj))
            show Wp _ 17 179 [(2, ((104 : Nat) : Int)), (0, (rs : Int)), (0, (cs : Int)), (0, (dd : Int)), (0, (num T rs cs : Int)), (0, z5), (0, (sB : Int)), (0, z7), (0, (sA : Int)), (0, 1), (0, (k : Int))] [] K2 _ _ _
            refine g_aload_n lk_17_179 rfl ?_
            refine g_getfield lk_17_180 rfl (lay2.on (by decide) rfl) (v := ((106 : Nat) : Int)) (lay2.rf rfl) ?_
            refine g_getfield lk_17_183 rfl (lay2.on (by decide) rfl) (v := ((109 : Nat) : Int)) (lay2.rf rfl) ?_
            refine g_iload lk_17_186 rfl ?_
            refine g_aload_n lk_17_188 rfl ?_
            refine g_getfield lk_17_189 rfl (lay2.on (by decide) rfl) (v := ((106 : Nat) : Int)) (lay2.rf rfl) ?_
            refine m_getfield (u := []) (M := K2) lk_17_192 rfl (lay2.on (by decide) rfl) (v := ((k + 1 + G1.length : Nat) : Int)) d1 ?_
            have lay2 : Lay (Mu [(109, pm_upd (pm_ct K2 109) k ((k + 1 + G1.length : Nat) : Int))] K2) := lay2.muA (l := []) (a := 109) (f := pm_upd (pm_ct K2 109) k ((k + 1 + G1.length : Nat) : Int)) rfl rfl
            refine m_iastore (u := []) (u' := [(109, pm_upd (pm_ct K2 109) k ((k + 1 + G1.length : Nat) : Int))]) (M := K2) lk_17_195 (lay2.ay (by decide) rfl) (by omega) (j := k) (by omega) rfl ?_
            refine g_aload_n lk_17_196 rfl ?_
            refine g_iload lk_17_197 rfl ?_
            refine g_if (t := 209) lk_17_199 rfl (by first | (unfold pm_inI; omega) | exact pm_and_in _ _ | exact pm_shr_in _ _ | exact pm_or_in _ _ | exact pm_xor_in _ _ | exact pm_shl_in _ _ | exact pm_cmp_in _ _ | exact pm_b8_in _ | (unfold pm_inI; split <;> omega)) (fun h => absurd h (show ¬ ((1 : Int) = (0 : Int)) by omega)) (fun _ => ?_)
            refine g_iload_n lk_17_202 rfl ?_
            refine g_iload lk_17_203 rfl ?_
            refine g_ixor lk_17_205 ?_
            refine g_top (z := (pm_xor (rs : Int) (sA : Int))) (z' := (r2 : Int)) (xr) ?_
            refine g_goto (t := 210) lk_17_206 rfl ?_
            refine g_iload lk_17_210 rfl ?_
            refine g_if (t := 219) lk_17_212 rfl (by first | (unfold pm_inI; omega) | exact pm_and_in _ _ | exact pm_shr_in _ _ | exact pm_or_in _ _ | exact pm_xor_in _ _ | exact pm_shl_in _ _ | exact pm_cmp_in _ _ | exact pm_b8_in _ | (unfold pm_inI; split <;> omega)) (fun h => absurd h (show ¬ ((1 : Int) = (0 : Int)) by omega)) (fun _ => ?_)
            refine g_iload_n lk_17_215 rfl ?_
            refine g_goto (t := 223) lk_17_216 rfl ?_
            refine g_iload_n lk_17_223 rfl ?_
            refine g_iconst lk_17_224 ?_
            refine g_iadd lk_17_225 ?_
            have fM : Fr [109] K2 (Mu [(109, pm_upd (pm_ct K2 109) k ((k + 1 + G1.length : Nat) : Int))] K2) := Fr.mu _ _ rfl
            have F3 : Fr [44, 106, 107, 108, 109] M (Mu [(109, pm_upd (pm_ct K2 109) k ((k + 1 + G1.length : Nat) : Int))] K2) := F2.trans (fM.mono (fun a q => by simp at q; simp [q]))
            have q3 : ∀ j, j ≠ 3 → pm_ct (Mu [(109, pm_upd (pm_ct K2 109) k ((k + 1 + G1.length : Nat) : Int))] K2) 44 j = pm_ct M 44 j := fun j hj => by rw [fM.ct (by decide)]; exact q2' j hj
            have L3 : NdL (Mu [(109, pm_upd (pm_ct K2 109) k ((k + 1 + G1.length : Nat) : Int))] K2) 107 108 109 (L ++ [(1, sA, ((k + 1 + G1.length : Nat) : Int))] ++ G1) := L2.put hk (fM.ct (by decide)) (fM.ct (by decide)) (by rw [Mu_ct]; rfl)
            have e3 : (L ++ [((1, sA, ((k + 1 + G1.length : Nat) : Int)) : Nd)] ++ G1).length = k + 1 + G1.length := by rw [List.length_append, List.length_append, ← hk]; rfl
            have g2 := ih d 0 0 r2 cs (dd + 1) (Mu [(109, pm_upd (pm_ct K2 109) k ((k + 1 + G1.length : Nat) : Int))] K2) (L ++ [(1, sA, ((k + 1 + G1.length : Nat) : Int))] ++ G1) s w in2 (by omega) (by omega) lay2 (keepA F3 q3).1 (keepA F3 q3).2.1 (keepA F3 q3).2.2 hsw (by rw [e3, fM.ct (by decide)]; exact d1) L3 (by rw [e3, ← hG2]; omega)
            rw [e3, ← hG2] at g2
            rw [show d + n + 3 = d + (n + 1) + 2 by omega] at g2
            refine g_virtual (p := 104) (Qc := _) lk_17_226 rfl (Nat.le_of_ble_eq_true rfl) rfl rfl (lay2.on (by decide) rfl) (Nat.le_of_ble_eq_true rfl) (Nat.le_of_ble_eq_true rfl) (Nat.zero_le _) (Nat.zero_le _) g2 ?_
            rintro _ K3 ⟨rfl, lay3, f3, q4, d3, L4⟩
            refine g_return lk_17_229 ?_
            rw [hQ]
            have ea : L ++ [(1, sA, ((k + 1 + G1.length : Nat) : Int))] ++ G1 ++ G2 = L ++ (1, sA, ((k + 1 + G1.length : Nat) : Int)) :: (G1 ++ G2) := by simp
            rw [ea] at d3 L4
            exact ⟨rfl, lay3, F3.trans f3, fun j hj => (q4 j hj).trans (q3 j hj), d3, L4⟩
          · replace h1 : ¬ (0 ≤ (k : Int)) := h1
            refine g_return lk_17_149 ?_
            omega
        · obtain ⟨y1, y2, -, -, y5, y6, y7⟩ := spC_s c64 (by have := hi.2.2.1; omega) hs2 hs3
          have eg := gt_B (T := T) (h := 1) (n := n) (rs := rs) (cs := cs) (k := k) hal (by rw [← hxA, ← hxB]; exact hx)
          rw [← hs1] at eg
          rw [eg] at hQ h71
          obtain ⟨G1, hG1⟩ : ∃ G, G = gt T 1 n rs sB (k + 1) := ⟨_, rfl⟩
          obtain ⟨G2, hG2⟩ : ∃ G, G = gt T 1 n rs (cs - sB) (k + 1 + G1.length) := ⟨_, rfl⟩
          rw [← hG1, ← hG2] at hQ h71
          rw [List.length_cons, List.length_append] at h71
          have in1 : inT T rs sB := ⟨hi.1, hi.2.1, y1, by have := hi.2.2.2; omega⟩
          have in2 : inT T rs (cs - sB) := ⟨hi.1, hi.2.1, y2, by have := hi.2.2.2; omega⟩
          have xr : pm_xor (cs : Int) (sB : Int) = ((cs - sB : Nat) : Int) := xor_tab ⟨cs, c64⟩ ⟨sB, by omega⟩ (spC_sub hs3)
          obtain ⟨r2, hr2⟩ : ∃ r, r = cs - sB := ⟨_, rfl⟩
          rw [← hr2] at xr in2 hG2 y5 y7
          refine g_aload_n lk_17_113 rfl ?_
          refine g_getfield lk_17_114 rfl (layK.on (by decide) rfl) (v := ((106 : Nat) : Int)) (layK.rf rfl) ?_
          refine g_iload lk_17_117 rfl ?_
          refine g_if (t := 126) lk_17_119 rfl (by first | (unfold pm_inI; omega) | exact pm_and_in _ _ | exact pm_shr_in _ _ | exact pm_or_in _ _ | exact pm_xor_in _ _ | exact pm_shl_in _ _ | exact pm_cmp_in _ _ | exact pm_b8_in _ | (unfold pm_inI; split <;> omega)) (fun _ => ?_) (fun h => absurd (show (0 : Int) = (0 : Int) by omega) h)
          refine g_iconst lk_17_126 ?_
          refine g_iload lk_17_127 rfl ?_
          refine g_if (t := 137) lk_17_129 rfl (by first | (unfold pm_inI; omega) | exact pm_and_in _ _ | exact pm_shr_in _ _ | exact pm_or_in _ _ | exact pm_xor_in _ _ | exact pm_shl_in _ _ | exact pm_cmp_in _ _ | exact pm_b8_in _ | (unfold pm_inI; split <;> omega)) (fun _ => ?_) (fun h => absurd (show (0 : Int) = (0 : Int) by omega) h)
          refine g_iload lk_17_137 rfl ?_
          refine g_virtual (p := 106) (Qc := _) lk_17_139 rfl (Nat.le_of_ble_eq_true rfl) rfl rfl (layK.on (by decide) rfl) (Nat.le_of_ble_eq_true rfl) (Nat.le_of_ble_eq_true rfl) (Nat.zero_le _) (Nat.zero_le _) (c_Nodes_add1 (x := 2) (y := sB) layK hctK (by omega)) ?_
          rintro _ K1 ⟨rfl, lay1, f1, c1, c2, c3, c4⟩
          have F1 : Fr [44, 106, 107, 108, 109] M K1 := (m44 fK).trans (mN f1)
          have q1 : ∀ j, j ≠ 3 → pm_ct K1 44 j = pm_ct M 44 j := (fun j hj => by rw [f1.ct (by decide)]; exact k44 j hj)
          have L1 : NdL K1 107 108 109 (L ++ [(2, sB, -1)]) := hLK.push hk c2 c3 c4
          have e1 : (L ++ [((2, sB, -1) : Nd)]).length = k + 1 := (by rw [List.length_append, ← hk]; rfl)
          have g1 := ih d 0 0 rs sB (dd + 1) K1 (L ++ [(2, sB, -1)]) s w in1 (by omega) (by omega) lay1 (keepA F1 q1).1 (keepA F1 q1).2.1 (keepA F1 q1).2.2 hsw (by rw [e1]; exact c1) L1 (by rw [e1, ← hG1]; omega)
          rw [e1, ← hG1] at g1
          rw [show d + n + 3 = d + (n + 1) + 2 by omega] at g1
          show Wp _ 17 142 [(2, ((104 : Nat) : Int)), (0, (rs : Int)), (0, (cs : Int)), (0, (dd : Int)), (0, (num T rs cs : Int)), (0, z5), (0, (sB : Int)), (0, z7), (0, (sA : Int)), (0, 0), (9, 0)] [(0, (k : Int))] K1 _ _ _
          refine g_istore (ls' := [(2, ((104 : Nat) : Int)), (0, (rs : Int)), (0, (cs : Int)), (0, (dd : Int)), (0, (num T rs cs : Int)), (0, z5), (0, (sB : Int)), (0, z7), (0, (sA : Int)), (0, 0), (0, (k : Int))]) lk_17_142 rfl rfl ?_
          refine g_iload lk_17_144 rfl ?_
          refine g_if (t := 150) lk_17_146 rfl (by first | (unfold pm_inI; omega) | exact pm_and_in _ _ | exact pm_shr_in _ _ | exact pm_or_in _ _ | exact pm_xor_in _ _ | exact pm_shl_in _ _ | exact pm_cmp_in _ _ | exact pm_b8_in _ | (unfold pm_inI; split <;> omega)) (fun h1 => ?_) (fun h1 => ?_)
          · replace h1 : 0 ≤ (k : Int) := h1
            refine g_aload_n lk_17_150 rfl ?_
            refine g_iload lk_17_151 rfl ?_
            refine g_if (t := 161) lk_17_153 rfl (by first | (unfold pm_inI; omega) | exact pm_and_in _ _ | exact pm_shr_in _ _ | exact pm_or_in _ _ | exact pm_xor_in _ _ | exact pm_shl_in _ _ | exact pm_cmp_in _ _ | exact pm_b8_in _ | (unfold pm_inI; split <;> omega)) (fun _ => ?_) (fun h => absurd (show (0 : Int) = (0 : Int) by omega) h)
            refine g_iload_n lk_17_161 rfl ?_
            refine g_iload lk_17_162 rfl ?_
            refine g_if (t := 171) lk_17_164 rfl (by first | (unfold pm_inI; omega) | exact pm_and_in _ _ | exact pm_shr_in _ _ | exact pm_or_in _ _ | exact pm_xor_in _ _ | exact pm_shl_in _ _ | exact pm_cmp_in _ _ | exact pm_b8_in _ | (unfold pm_inI; split <;> omega)) (fun _ => ?_) (fun h => absurd (show (0 : Int) = (0 : Int) by omega) h)
            refine g_iload lk_17_171 rfl ?_
            refine g_iload_n lk_17_173 rfl ?_
            refine g_iconst lk_17_174 ?_
            refine g_iadd lk_17_175 ?_
            refine g_virtual (p := 104) (Qc := _) lk_17_176 rfl (Nat.le_of_ble_eq_true rfl) rfl rfl (lay1.on (by decide) rfl) (Nat.le_of_ble_eq_true rfl) (Nat.le_of_ble_eq_true rfl) (Nat.zero_le _) (Nat.zero_le _) (g1) ?_
            rintro _ K2 ⟨rfl, lay2, f2, q2, d1, L2⟩
            rw [List.length_append, e1] at d1
            have F2 : Fr [44, 106, 107, 108, 109] M K2 := F1.trans f2
            have q2' : ∀ j, j ≠ 3 → pm_ct K2 44 j = pm_ct M 44 j := (fun j hj => (q2 j hj).trans (q1 j hj))
            show Wp _ 17 179 [(2, ((104 : Nat) : Int)), (0, (rs : Int)), (0, (cs : Int)), (0, (dd : Int)), (0, (num T rs cs : Int)), (0, z5), (0, (sB : Int)), (0, z7), (0, (sA : Int)), (0, 0), (0, (k : Int))] [] K2 _ _ _
            refine g_aload_n lk_17_179 rfl ?_
            refine g_getfield lk_17_180 rfl (lay2.on (by decide) rfl) (v := ((106 : Nat) : Int)) (lay2.rf rfl) ?_
            refine g_getfield lk_17_183 rfl (lay2.on (by decide) rfl) (v := ((109 : Nat) : Int)) (lay2.rf rfl) ?_
            refine g_iload lk_17_186 rfl ?_
            refine g_aload_n lk_17_188 rfl ?_
            refine g_getfield lk_17_189 rfl (lay2.on (by decide) rfl) (v := ((106 : Nat) : Int)) (lay2.rf rfl) ?_
            refine m_getfield (u := []) (M := K2) lk_17_192 rfl (lay2.on (by decide) rfl) (v := ((k + 1 + G1.length : Nat) : Int)) d1 ?_
            have lay2 : Lay (Mu [(109, pm_upd (pm_ct K2 109) k ((k + 1 + G1.length : Nat) : Int))] K2) := lay2.muA (l := []) (a := 109) (f := pm_upd (pm_ct K2 109) k ((k + 1 + G1.length : Nat) : Int)) rfl rfl
            refine m_iastore (u := []) (u' := [(109, pm_upd (pm_ct K2 109) k ((k + 1 + G1.length : Nat) : Int))]) (M := K2) lk_17_195 (lay2.ay (by decide) rfl) (by omega) (j := k) (by omega) rfl ?_
            refine g_aload_n lk_17_196 rfl ?_
            refine g_iload lk_17_197 rfl ?_
            refine g_if (t := 209) lk_17_199 rfl (by first | (unfold pm_inI; omega) | exact pm_and_in _ _ | exact pm_shr_in _ _ | exact pm_or_in _ _ | exact pm_xor_in _ _ | exact pm_shl_in _ _ | exact pm_cmp_in _ _ | exact pm_b8_in _ | (unfold pm_inI; split <;> omega)) (fun _ => ?_) (fun h => absurd (show (0 : Int) = (0 : Int) by omega) h)
            refine g_iload_n lk_17_209 rfl ?_
            refine g_iload lk_17_210 rfl ?_
            refine g_if (t := 219) lk_17_212 rfl (by first | (unfold pm_inI; omega) | exact pm_and_in _ _ | exact pm_shr_in _ _ | exact pm_or_in _ _ | exact pm_xor_in _ _ | exact pm_shl_in _ _ | exact pm_cmp_in _ _ | exact pm_b8_in _ | (unfold pm_inI; split <;> omega)) (fun _ => ?_) (fun h => absurd (show (0 : Int) = (0 : Int) by omega) h)
            refine g_iload_n lk_17_219 rfl ?_
            refine g_iload lk_17_220 rfl ?_
            refine g_ixor lk_17_222 ?_
            refine g_top (z := (pm_xor (cs : Int) (sB : Int))) (z' := (r2 : Int)) (xr) ?_
            refine g_iload_n lk_17_223 rfl ?_
            refine g_iconst lk_17_224 ?_
            refine g_iadd lk_17_225 ?_
            have fM : Fr [109] K2 (Mu [(109, pm_upd (pm_ct K2 109) k ((k + 1 + G1.length : Nat) : Int))] K2) := Fr.mu _ _ rfl
            have F3 : Fr [44, 106, 107, 108, 109] M (Mu [(109, pm_upd (pm_ct K2 109) k ((k + 1 + G1.length : Nat) : Int))] K2) := F2.trans (fM.mono (fun a q => by simp at q; simp [q]))
            have q3 : ∀ j, j ≠ 3 → pm_ct (Mu [(109, pm_upd (pm_ct K2 109) k ((k + 1 + G1.length : Nat) : Int))] K2) 44 j = pm_ct M 44 j := fun j hj => by rw [fM.ct (by decide)]; exact q2' j hj
            have L3 : NdL (Mu [(109, pm_upd (pm_ct K2 109) k ((k + 1 + G1.length : Nat) : Int))] K2) 107 108 109 (L ++ [(2, sB, ((k + 1 + G1.length : Nat) : Int))] ++ G1) := L2.put hk (fM.ct (by decide)) (fM.ct (by decide)) (by rw [Mu_ct]; rfl)
            have e3 : (L ++ [((2, sB, ((k + 1 + G1.length : Nat) : Int)) : Nd)] ++ G1).length = k + 1 + G1.length := by rw [List.length_append, List.length_append, ← hk]; rfl
            have g2 := ih d 0 0 rs r2 (dd + 1) (Mu [(109, pm_upd (pm_ct K2 109) k ((k + 1 + G1.length : Nat) : Int))] K2) (L ++ [(2, sB, ((k + 1 + G1.length : Nat) : Int))] ++ G1) s w in2 (by omega) (by omega) lay2 (keepA F3 q3).1 (keepA F3 q3).2.1 (keepA F3 q3).2.2 hsw (by rw [e3, fM.ct (by decide)]; exact d1) L3 (by rw [e3, ← hG2]; omega)
            rw [e3, ← hG2] at g2
            rw [show d + n + 3 = d + (n + 1) + 2 by omega] at g2
            refine g_virtual (p := 104) (Qc := _) lk_17_226 rfl (Nat.le_of_ble_eq_true rfl) rfl rfl (lay2.on (by decide) rfl) (Nat.le_of_ble_eq_true rfl) (Nat.le_of_ble_eq_true rfl) (Nat.zero_le _) (Nat.zero_le _) g2 ?_
            rintro _ K3 ⟨rfl, lay3, f3, q4, d3, L4⟩
            refine g_return lk_17_229 ?_
            rw [hQ]
            have ea : L ++ [(2, sB, ((k + 1 + G1.length : Nat) : Int))] ++ G1 ++ G2 = L ++ (2, sB, ((k + 1 + G1.length : Nat) : Int)) :: (G1 ++ G2) := by simp
            rw [ea] at d3 L4
            exact ⟨rfl, lay3, F3.trans f3, fun j hj => (q4 j hj).trans (q3 j hj), d3, L4⟩
          · replace h1 : ¬ (0 ≤ (k : Int)) := h1
            refine g_return lk_17_149 ?_
            omega
      show Wp (d + (n + 1) + 3) 17 0 [(2, ((104 : Nat) : Int)), (0, (rs : Int)), (0, (cs : Int)), (0, (dd : Int)), (9, 0), (9, 0), (9, 0), (9, 0), (9, 0), (9, 0), (9, 0)] [] M mc ms Q
      refine g_aload_n lk_17_0 rfl ?_
      refine g_getfield lk_17_1 rfl (lay.on (by decide) rfl) (v := ((44 : Nat) : Int)) (lay.rf rfl) ?_
      refine g_iload_n lk_17_4 rfl ?_
      refine g_iload_n lk_17_5 rfl ?_
      refine g_virtual (p := 44) (Qc := _) lk_17_6 rfl (Nat.le_of_ble_eq_true rfl) rfl rfl (lay.on (by decide) rfl) (Nat.le_of_ble_eq_true rfl) (Nat.le_of_ble_eq_true rfl) (Nat.zero_le _) (Nat.zero_le _) (c_Areas_numberOf lay hT hM (by omega) (by omega)) ?_
      rintro _ N1 ⟨rfl, hN1⟩
      rw [hN1]
      show Wp _ 17 9 [(2, ((104 : Nat) : Int)), (0, (rs : Int)), (0, (cs : Int)), (0, (dd : Int)), (9, 0), (9, 0), (9, 0), (9, 0), (9, 0), (9, 0), (9, 0)] [(0, (num T rs cs : Int))] M _ _ _
      refine g_istore (ls' := [(2, ((104 : Nat) : Int)), (0, (rs : Int)), (0, (cs : Int)), (0, (dd : Int)), (0, (num T rs cs : Int)), (9, 0), (9, 0), (9, 0), (9, 0), (9, 0), (9, 0)]) lk_17_9 rfl rfl ?_
      refine g_iload_n lk_17_11 rfl ?_
      refine g_bipush lk_17_12 ?_
      refine g_icmp (t := 27) lk_17_14 rfl (by first | (unfold pm_inI; omega) | exact pm_and_in _ _ | exact pm_shr_in _ _ | exact pm_or_in _ _ | exact pm_xor_in _ _ | exact pm_shl_in _ _ | exact pm_cmp_in _ _ | exact pm_b8_in _ | (unfold pm_inI; split <;> omega)) (by first | (unfold pm_inI; omega) | exact pm_and_in _ _ | exact pm_shr_in _ _ | exact pm_or_in _ _ | exact pm_xor_in _ _ | exact pm_shl_in _ _ | exact pm_cmp_in _ _ | exact pm_b8_in _ | (unfold pm_inI; split <;> omega)) (fun h2 => ?_) (fun h2 => ?_)
      · replace h2 : 12 < (dd : Int) := h2
        refine g_return lk_17_27 ?_
        omega
      · replace h2 : ¬ (12 < (dd : Int)) := h2
        refine g_iload lk_17_17 rfl ?_
        refine g_aload_n lk_17_19 rfl ?_
        refine m_getfield (u := []) (M := M) lk_17_20 rfl (lay.on (by decide) rfl) (v := ((w : Nat) : Int)) i4 ?_
        refine g_arraylength (n := nw) lk_17_23 (by decide) hay ?_
        refine g_icmp (t := 28) lk_17_24 rfl (by first | (unfold pm_inI; omega) | exact pm_and_in _ _ | exact pm_shr_in _ _ | exact pm_or_in _ _ | exact pm_xor_in _ _ | exact pm_shl_in _ _ | exact pm_cmp_in _ _ | exact pm_b8_in _ | (unfold pm_inI; split <;> omega)) (by first | (unfold pm_inI; omega) | exact pm_and_in _ _ | exact pm_shr_in _ _ | exact pm_or_in _ _ | exact pm_xor_in _ _ | exact pm_shl_in _ _ | exact pm_cmp_in _ _ | exact pm_b8_in _ | (unfold pm_inI; split <;> omega)) (fun h3 => ?_) (fun h3 => ?_)
        · replace h3 : (num T rs cs : Int) < ((nw : Nat) : Int) := h3
          refine g_aload_n lk_17_28 rfl ?_
          refine g_getfield lk_17_29 rfl (lay.on (by decide) rfl) (v := ((44 : Nat) : Int)) (lay.rf rfl) ?_
          refine g_iload lk_17_32 rfl ?_
          refine g_virtual (p := 44) (Qc := _) lk_17_34 rfl (Nat.le_of_ble_eq_true rfl) rfl rfl (lay.on (by decide) rfl) (Nat.le_of_ble_eq_true rfl) (Nat.le_of_ble_eq_true rfl) (Nat.zero_le _) (Nat.zero_le _) (ione) ?_
          rintro _ N4 ⟨rfl, hN4⟩
          rw [hN4]
          show Wp _ 17 37 [(2, ((104 : Nat) : Int)), (0, (rs : Int)), (0, (cs : Int)), (0, (dd : Int)), (0, (num T rs cs : Int)), (9, 0), (9, 0), (9, 0), (9, 0), (9, 0), (9, 0)] [(0, 0)] M _ _ _
          refine g_if (t := 65) lk_17_37 rfl (by first | (unfold pm_inI; omega) | exact pm_and_in _ _ | exact pm_shr_in _ _ | exact pm_or_in _ _ | exact pm_xor_in _ _ | exact pm_shl_in _ _ | exact pm_cmp_in _ _ | exact pm_b8_in _ | (unfold pm_inI; split <;> omega)) (fun _ => ?_) (fun h => absurd (show (0 : Int) = (0 : Int) by omega) h)
          refine g_aload_n lk_17_65 rfl ?_
          refine g_iload_n lk_17_66 rfl ?_
          refine g_iload_n lk_17_67 rfl ?_
          refine g_virtual (p := 104) (Qc := _) lk_17_68 rfl (Nat.le_of_ble_eq_true rfl) rfl rfl (lay.on (by decide) rfl) (Nat.le_of_ble_eq_true rfl) (Nat.le_of_ble_eq_true rfl) (Nat.zero_le _) (Nat.zero_le _) (tB1) ?_
          rintro _ K1 ⟨rfl, layB, pkB, fB, fB3, kB, isB⟩
          have hMA : TbAt K1 24 T := hM.fr fB (by decide) (by decide)
          have hAA : CA K1 T s 1 := hA.fr fB.gr (fB3 1 (by decide)) (fB3 2 (by decide)) (fun q => own_ne hA.1 (a := 44) rfl (List.mem_singleton.mp q).symm)
          have ewK : pm_ct K1 w = pm_ct M w := fB.ct (fun q => own_ne hw (a := 44) rfl (List.mem_singleton.mp q).symm)
          have tA1 := c_Best_talkOfA1 (d := d + n + 1) (mc := 0) (ms := 0) layB hT hMA hAA (by rw [fB.ct (by decide)]; exact i2) hw (by rw [fB.ct (by decide)]; exact i4) (fB.ay hay) hn hi.1 hi.2.1 hi.2.2.1 hi.2.2.2 (fun q a b => by rw [ewK]; exact hwo q cs a (by have := hi.2.1; omega) hi.2.2.1 hi.2.2.2)
          rw [← ewA, ← hxA] at tA1
          show Wp _ 17 71 [(2, ((104 : Nat) : Int)), (0, (rs : Int)), (0, (cs : Int)), (0, (dd : Int)), (0, (num T rs cs : Int)), (9, 0), (9, 0), (9, 0), (9, 0), (9, 0), (9, 0)] [(0, (xB : Int))] K1 _ _ _
          refine g_istore (ls' := [(2, ((104 : Nat) : Int)), (0, (rs : Int)), (0, (cs : Int)), (0, (dd : Int)), (0, (num T rs cs : Int)), (0, (xB : Int)), (9, 0), (9, 0), (9, 0), (9, 0), (9, 0)]) lk_17_71 rfl rfl ?_
          refine g_aload_n lk_17_73 rfl ?_
          refine g_getfield lk_17_74 rfl (layB.on (by decide) rfl) (v := ((44 : Nat) : Int)) (layB.rf rfl) ?_
          refine m_getfield (u := []) (M := K1) lk_17_77 rfl (layB.on (by decide) rfl) (v := (pkB : Int)) kB ?_
          refine g_istore (ls' := [(2, ((104 : Nat) : Int)), (0, (rs : Int)), (0, (cs : Int)), (0, (dd : Int)), (0, (num T rs cs : Int)), (0, (xB : Int)), (0, (pkB : Int)), (9, 0), (9, 0), (9, 0), (9, 0)]) lk_17_80 rfl rfl ?_
          refine g_aload_n lk_17_82 rfl ?_
          refine g_iload_n lk_17_83 rfl ?_
          refine g_iload_n lk_17_84 rfl ?_
          refine g_virtual (p := 104) (Qc := _) lk_17_85 rfl (Nat.le_of_ble_eq_true rfl) rfl rfl (layB.on (by decide) rfl) (Nat.le_of_ble_eq_true rfl) (Nat.le_of_ble_eq_true rfl) (Nat.zero_le _) (Nat.zero_le _) (tA1) ?_
          rintro _ K2 ⟨rfl, layA, pkA, fA, fA3, kA, isA⟩
          show Wp _ 17 88 [(2, ((104 : Nat) : Int)), (0, (rs : Int)), (0, (cs : Int)), (0, (dd : Int)), (0, (num T rs cs : Int)), (0, (xB : Int)), (0, (pkB : Int)), (9, 0), (9, 0), (9, 0), (9, 0)] [(0, (xA : Int))] K2 _ _ _
          refine g_istore (ls' := [(2, ((104 : Nat) : Int)), (0, (rs : Int)), (0, (cs : Int)), (0, (dd : Int)), (0, (num T rs cs : Int)), (0, (xB : Int)), (0, (pkB : Int)), (0, (xA : Int)), (9, 0), (9, 0), (9, 0)]) lk_17_88 rfl rfl ?_
          refine g_aload_n lk_17_90 rfl ?_
          refine g_getfield lk_17_91 rfl (layA.on (by decide) rfl) (v := ((44 : Nat) : Int)) (layA.rf rfl) ?_
          refine m_getfield (u := []) (M := K2) lk_17_94 rfl (layA.on (by decide) rfl) (v := (pkA : Int)) kA ?_
          refine g_istore (ls' := [(2, ((104 : Nat) : Int)), (0, (rs : Int)), (0, (cs : Int)), (0, (dd : Int)), (0, (num T rs cs : Int)), (0, (xB : Int)), (0, (pkB : Int)), (0, (xA : Int)), (0, (pkA : Int)), (9, 0), (9, 0)]) lk_17_97 rfl rfl ?_
          refine g_iload lk_17_99 rfl ?_
          refine g_iload lk_17_101 rfl ?_
          refine g_icmp (t := 110) lk_17_103 rfl (by first | (unfold pm_inI; omega) | exact pm_and_in _ _ | exact pm_shr_in _ _ | exact pm_or_in _ _ | exact pm_xor_in _ _ | exact pm_shl_in _ _ | exact pm_cmp_in _ _ | exact pm_b8_in _ | (unfold pm_inI; split <;> omega)) (by first | (unfold pm_inI; omega) | exact pm_and_in _ _ | exact pm_shr_in _ _ | exact pm_or_in _ _ | exact pm_xor_in _ _ | exact pm_shl_in _ _ | exact pm_cmp_in _ _ | exact pm_b8_in _ | (unfold pm_inI; split <;> omega)) (fun h5 => ?_) (fun h5 => ?_)
          · replace h5 : (xB : Int) < (xA : Int) := h5
            refine g_iconst lk_17_110 ?_
            refine g_istore (ls' := [(2, ((104 : Nat) : Int)), (0, (rs : Int)), (0, (cs : Int)), (0, (dd : Int)), (0, (num T rs cs : Int)), (0, (xB : Int)), (0, (pkB : Int)), (0, (xA : Int)), (0, (pkA : Int)), (0, 0), (9, 0)]) lk_17_111 rfl rfl ?_
            have hx : ¬ xA ≤ xB := by omega
            obtain ⟨e1, e2, e3, -⟩ := isB.eq (pick_B hT hi hal (by rw [← hxA, ← hxB]; exact hx))
            exact k113 K2 0 pkA pkB _ _ layA (fB.trans fA) (fun j hj => (fA3 j hj).trans (fB3 j hj)) (Or.inr ⟨rfl, hx, e1, e2, e3⟩)
          · replace h5 : ¬ ((xB : Int) < (xA : Int)) := h5
            refine g_iconst lk_17_106 ?_
            refine g_goto (t := 111) lk_17_107 rfl ?_
            refine g_istore (ls' := [(2, ((104 : Nat) : Int)), (0, (rs : Int)), (0, (cs : Int)), (0, (dd : Int)), (0, (num T rs cs : Int)), (0, (xB : Int)), (0, (pkB : Int)), (0, (xA : Int)), (0, (pkA : Int)), (0, 1), (9, 0)]) lk_17_111 rfl rfl ?_
            have hx : xA ≤ xB := by omega
            obtain ⟨e1, e2, e3, -⟩ := isA.eq (pick_A hT hi hal (by rw [← hxA, ← hxB]; exact hx))
            exact k113 K2 1 pkA pkB _ _ layA (fB.trans fA) (fun j hj => (fA3 j hj).trans (fB3 j hj)) (Or.inl ⟨rfl, hx, e1, e2, e3⟩)
        · replace h3 : ¬ ((num T rs cs : Int) < ((nw : Nat) : Int)) := h3
          refine g_return lk_17_27 ?_
          omega
theorem c_Nodes_add2 {d mc ms : Nat} {M : pm_M} (lay : Lay M) {k x y : Nat} (hk : pm_ct M 112 3 = (k : Int)) (k71 : k < 71) :
    pm_E d 36 [(2, ((112 : Nat) : Int)), (0, (x : Int)), (0, (y : Int))] M mc ms (fun ρ M' => ρ = some (0, (k : Int)) ∧ Lay M' ∧ Fr [112, 113, 114, 115] M M' ∧ pm_ct M' 112 3 = ((k + 1 : Nat) : Int) ∧ pm_ct M' 113 = pm_upd (pm_ct M 113) k (x : Int) ∧ pm_ct M' 114 = pm_upd (pm_ct M 114) k (y : Int) ∧ pm_ct M' 115 = pm_upd (pm_ct M 115) k (-1)) := by
  show Wp d 36 0 [(2, ((112 : Nat) : Int)), (0, (x : Int)), (0, (y : Int))] [] M mc ms _
  refine g_aload_n lk_36_0 rfl ?_
  refine m_getfield (u := []) (M := M) lk_36_1 rfl (lay.on (by decide) rfl) (v := (k : Int)) hk ?_
  refine g_aload_n lk_36_4 rfl ?_
  refine g_getfield lk_36_5 rfl (lay.on (by decide) rfl) (v := ((113 : Nat) : Int)) (lay.rf rfl) ?_
  refine g_arraylength (n := 71) lk_36_8 (by decide) (lay.ay (by decide) rfl) ?_
  refine g_icmp (t := 14) lk_36_9 rfl (by first | (unfold pm_inI; omega) | exact pm_and_in _ _ | exact pm_shr_in _ _ | exact pm_or_in _ _ | exact pm_xor_in _ _ | exact pm_shl_in _ _ | exact pm_cmp_in _ _ | exact pm_b8_in _ | (unfold pm_inI; split <;> omega)) (by first | (unfold pm_inI; omega) | exact pm_and_in _ _ | exact pm_shr_in _ _ | exact pm_or_in _ _ | exact pm_xor_in _ _ | exact pm_shl_in _ _ | exact pm_cmp_in _ _ | exact pm_b8_in _ | (unfold pm_inI; split <;> omega)) (fun h1 => ?_) (fun h1 => ?_)
  · replace h1 : (k : Int) < 71 := h1
    refine g_aload_n lk_36_14 rfl ?_
    refine g_getfield lk_36_15 rfl (lay.on (by decide) rfl) (v := ((113 : Nat) : Int)) (lay.rf rfl) ?_
    refine g_aload_n lk_36_18 rfl ?_
    refine m_getfield (u := []) (M := M) lk_36_19 rfl (lay.on (by decide) rfl) (v := (k : Int)) hk ?_
    refine g_iload_n lk_36_22 rfl ?_
    have lay2 : Lay (Mu [(113, pm_upd (pm_ct M 113) k (x : Int))] M) := lay.muA (l := []) (a := 113) (f := pm_upd (pm_ct M 113) k (x : Int)) rfl rfl
    refine m_iastore (u := []) (u' := [(113, pm_upd (pm_ct M 113) k (x : Int))]) (M := M) lk_36_23 (lay.ay (by decide) rfl) (by omega) (j := k) (by omega) rfl ?_
    refine g_aload_n lk_36_24 rfl ?_
    refine g_getfield lk_36_25 rfl (lay2.on (by decide) rfl) (v := ((114 : Nat) : Int)) (lay2.rf rfl) ?_
    refine g_aload_n lk_36_28 rfl ?_
    refine m_getfield (u := [(113, pm_upd (pm_ct M 113) k (x : Int))]) (M := M) lk_36_29 rfl (lay2.on (by decide) rfl) (v := (k : Int)) hk ?_
    refine g_iload_n lk_36_32 rfl ?_
    have lay3 : Lay (Mu [(113, pm_upd (pm_ct M 113) k (x : Int)), (114, pm_upd (pm_ct M 114) k (y : Int))] M) := lay2.muA (l := [(113, pm_upd (pm_ct M 113) k (x : Int))]) (a := 114) (f := pm_upd (pm_ct M 114) k (y : Int)) rfl rfl
    refine m_iastore (u := [(113, pm_upd (pm_ct M 113) k (x : Int))]) (u' := [(113, pm_upd (pm_ct M 113) k (x : Int)), (114, pm_upd (pm_ct M 114) k (y : Int))]) (M := M) lk_36_33 (lay2.ay (by decide) rfl) (by omega) (j := k) (by omega) rfl ?_
    refine g_aload_n lk_36_34 rfl ?_
    refine g_getfield lk_36_35 rfl (lay3.on (by decide) rfl) (v := ((115 : Nat) : Int)) (lay3.rf rfl) ?_
    refine g_aload_n lk_36_38 rfl ?_
    refine m_getfield (u := [(113, pm_upd (pm_ct M 113) k (x : Int)), (114, pm_upd (pm_ct M 114) k (y : Int))]) (M := M) lk_36_39 rfl (lay3.on (by decide) rfl) (v := (k : Int)) hk ?_
    refine g_iconst lk_36_42 ?_
    have lay4 : Lay (Mu [(113, pm_upd (pm_ct M 113) k (x : Int)), (114, pm_upd (pm_ct M 114) k (y : Int)), (115, pm_upd (pm_ct M 115) k (-1))] M) := lay3.muA (l := [(113, pm_upd (pm_ct M 113) k (x : Int)), (114, pm_upd (pm_ct M 114) k (y : Int))]) (a := 115) (f := pm_upd (pm_ct M 115) k (-1)) rfl rfl
    refine m_iastore (u := [(113, pm_upd (pm_ct M 113) k (x : Int)), (114, pm_upd (pm_ct M 114) k (y : Int))]) (u' := [(113, pm_upd (pm_ct M 113) k (x : Int)), (114, pm_upd (pm_ct M 114) k (y : Int)), (115, pm_upd (pm_ct M 115) k (-1))]) (M := M) lk_36_43 (lay3.ay (by decide) rfl) (by omega) (j := k) (by omega) rfl ?_
    refine g_aload_n lk_36_44 rfl ?_
    refine g_dup lk_36_45 rfl ?_
    refine m_getfield (u := [(113, pm_upd (pm_ct M 113) k (x : Int)), (114, pm_upd (pm_ct M 114) k (y : Int)), (115, pm_upd (pm_ct M 115) k (-1))]) (M := M) lk_36_46 rfl (lay4.on (by decide) rfl) (v := (k : Int)) hk ?_
    refine g_iconst lk_36_49 ?_
    refine g_iadd lk_36_50 ?_
    have lay5 : Lay (Mu [(113, pm_upd (pm_ct M 113) k (x : Int)), (114, pm_upd (pm_ct M 114) k (y : Int)), (115, pm_upd (pm_ct M 115) k (-1)), (112, pm_upd (pm_ct M 112) 3 ((k : Int) + 1))] M) := lay4.muF (l := [(113, pm_upd (pm_ct M 113) k (x : Int)), (114, pm_upd (pm_ct M 114) k (y : Int)), (115, pm_upd (pm_ct M 115) k (-1))]) (a := 112) (k := 3) (z := ((k : Int) + 1)) rfl rfl
    refine m_putfield (u := [(113, pm_upd (pm_ct M 113) k (x : Int)), (114, pm_upd (pm_ct M 114) k (y : Int)), (115, pm_upd (pm_ct M 115) k (-1))]) (u' := [(113, pm_upd (pm_ct M 113) k (x : Int)), (114, pm_upd (pm_ct M 114) k (y : Int)), (115, pm_upd (pm_ct M 115) k (-1)), (112, pm_upd (pm_ct M 112) 3 ((k : Int) + 1))]) (M := M) lk_36_51 rfl (lay4.on (by decide) rfl) (fun h => absurd h (by decide)) rfl ?_
    refine g_aload_n lk_36_54 rfl ?_
    refine m_getfield (u := [(113, pm_upd (pm_ct M 113) k (x : Int)), (114, pm_upd (pm_ct M 114) k (y : Int)), (115, pm_upd (pm_ct M 115) k (-1)), (112, pm_upd (pm_ct M 112) 3 ((k : Int) + 1))]) (M := M) lk_36_55 rfl (lay5.on (by decide) rfl) (v := ((k : Int) + 1)) rfl ?_
    refine g_iconst lk_36_58 ?_
    refine g_isub lk_36_59 ?_
    refine g_ireturn lk_36_60 (fun h => absurd h (by decide)) ?_
    refine ⟨?_, lay5, Fr.mu _ _ rfl, by rw [Mu_ct]; rfl, by rw [Mu_ct]; rfl, by rw [Mu_ct]; rfl, by rw [Mu_ct]; rfl⟩
    congr 2
    omega
  · replace h1 : ¬ ((k : Int) < 71) := h1
    refine g_iconst lk_36_12 ?_
    refine g_ireturn lk_36_13 (fun h => absurd h (by decide)) ?_
    omega
set_option maxHeartbeats 8000000 in
theorem c_Best_grow2 {T : Tab} (hT : TabOK T) : ∀ (n d mc ms rs cs dd : Nat) (M : pm_M) (L : List Nd) (s w : Nat), inT T rs cs → pop rs + pop cs ≤ n → dd + n ≤ 12 → Lay M → TbAt M 24 T → CA M T s 1 → CB M T 2 110 w 1 → s ≠ w → pm_ct M 112 3 = (L.length : Int) → NdL M 113 114 115 L → L.length + (gt T 2 n rs cs L.length).length ≤ 71 →
    pm_E (d + n + 3) 17 [(2, ((110 : Nat) : Int)), (0, (rs : Int)), (0, (cs : Int)), (0, (dd : Int))] M mc ms (fun ρ M' => ρ = none ∧ Lay M' ∧ Fr [44, 112, 113, 114, 115] M M' ∧ (∀ j, j ≠ 3 → pm_ct M' 44 j = pm_ct M 44 j) ∧ pm_ct M' 112 3 = ((L ++ gt T 2 n rs cs L.length).length : Int) ∧ NdL M' 113 114 115 (L ++ gt T 2 n rs cs L.length)) := by
  intro n
  induction n with
  | zero =>
    intro d mc ms rs cs dd M L s w hi hp
    obtain ⟨h1, h2⟩ := hi.r hT
    have popp : ∀ s : Fin 64, (s : Nat) ≠ 0 → 1 ≤ pop (s : Nat) := by decide +kernel
    have r1 : 1 ≤ pop rs := popp ⟨rs, h1⟩ (by have := hi.1; show rs ≠ 0; omega)
    omega
  | succ n ih =>
    intro d mc ms rs cs dd M L s w hi hp hdd lay hM hA hB hsw hct hL h71
    obtain ⟨Q, hQ⟩ : ∃ Q : pm_Q, Q = (fun ρ M' => ρ = none ∧ Lay M' ∧ Fr [44, 112, 113, 114, 115] M M' ∧ (∀ j, j ≠ 3 → pm_ct M' 44 j = pm_ct M 44 j) ∧ pm_ct M' 112 3 = ((L ++ gt T 2 (n + 1) rs cs L.length).length : Int) ∧ NdL M' 113 114 115 (L ++ gt T 2 (n + 1) rs cs L.length)) := ⟨_, rfl⟩
    rw [← hQ]
    obtain ⟨r64, c64⟩ := hi.r hT
    have nl := num_lt (T := T) hi.2.1 hi.2.2.2
    have r9 := hi.2.1
    have c9 := hi.2.2.2
    obtain ⟨hw, i4, i5, i2, _, nw, n4, hay, hf⟩ := id hB
    obtain ⟨hn, hwo⟩ := hf rfl
    obtain ⟨k, hk⟩ : ∃ k, k = L.length := ⟨_, rfl⟩
    rw [← hk] at hct h71 hQ
    have vl := vIn_lt T rs cs
    have m44 : ∀ {A B : pm_M}, Fr [44] A B → Fr [44, 112, 113, 114, 115] A B := fun h => h.mono (fun a q => by simp at q; simp [q])
    have mN : ∀ {A B : pm_M}, Fr [112, 113, 114, 115] A B → Fr [44, 112, 113, 114, 115] A B := fun h => h.mono (fun a q => by simp at q; simp; omega)
    have nn : ∀ a, (a == 45 || a == 49 || a == 50 || a == 53 || a == 99 || a == 105 || a == 111 || Nat.ble 157 a) = true → a ∉ [44, 112, 113, 114, 115] := fun a h q => by
      simp at q
      rcases q with q | q | q | q | q <;> (subst q; cases h)
    have own_b : ∀ {a : Nat}, own a → (a == 45 || a == 49 || a == 50 || a == 53 || a == 99 || a == 105 || a == 111 || Nat.ble 157 a) = true := fun {a} h => by
      rcases h with h | h | h | h | h | h | h | h
      all_goals first | (subst h; rfl) | skip
      rw [show Nat.ble 157 a = true from Nat.ble_eq.mpr h]; simp
    have M157 := lay.1
    have keepA : ∀ {N : pm_M}, Fr [44, 112, 113, 114, 115] M N → (∀ j, j ≠ 3 → pm_ct N 44 j = pm_ct M 44 j) → TbAt N 24 T ∧ CA N T s 1 ∧ CB N T 2 110 w 1 := fun f q => ⟨hM.fr f (by decide) (by decide), hA.fr f.gr (q 1 (by decide)) (q 2 (by decide)) (nn s (own_b hA.1)), hB.fr f.gr (by omega) (by decide) (nn w (own_b hw))⟩
    by_cases hal : pop (vIn T rs cs) < 2
    · have eg := gt_leaf (T := T) (h := 2) (n := n) (rs := rs) (cs := cs) (k := k) hal
      rw [eg] at hQ h71
      have ione := c_Areas_isOneValue (d := d + n + 2) (mc := 0) (ms := 0) lay hT hA hi.1 hi.2.1 hi.2.2.1 hi.2.2.2
      rw [if_pos hal] at ione
      have ov := c_X_onlyValue (d := d + n + 1) (mc := 0) (ms := 0) (M := M) vl hal
      have f10 : vIn T rs cs ≠ 0 → fstb (vIn T rs cs) < 10 := fun h => by
        have tb : ∀ v : Fin 1024, (v : Nat) ≠ 0 → fstb (v : Nat) < 10 := by decide +kernel
        exact tb ⟨vIn T rs cs, vl⟩ h
      obtain ⟨z, hz⟩ : ∃ z : Int, z = (if vIn T rs cs = 0 then (10 : Int) else (fstb (vIn T rs cs) : Int)) := ⟨_, rfl⟩
      rw [← hz] at ov
      have zr : 0 ≤ z ∧ z ≤ 10 := by
        rw [hz]
        by_cases e : vIn T rs cs = 0
        · rw [if_pos e]; omega
        · rw [if_neg e]; have := f10 e; omega
      have e10 : z.tmod 10 = (lfv T rs cs : Int) := by
        rw [hz]
        unfold lfv
        by_cases e : vIn T rs cs = 0
        · rw [if_pos e, if_pos e]; rfl
        · rw [if_neg e, if_neg e]
          have := f10 e
          rw [Int.tmod_eq_of_lt (by omega) (by omega)]
      show Wp (d + (n + 1) + 3) 17 0 [(2, ((110 : Nat) : Int)), (0, (rs : Int)), (0, (cs : Int)), (0, (dd : Int)), (9, 0), (9, 0), (9, 0), (9, 0), (9, 0), (9, 0), (9, 0)] [] M mc ms Q
      refine g_aload_n lk_17_0 rfl ?_
      refine g_getfield lk_17_1 rfl (lay.on (by decide) rfl) (v := ((44 : Nat) : Int)) (lay.rf rfl) ?_
      refine g_iload_n lk_17_4 rfl ?_
      refine g_iload_n lk_17_5 rfl ?_
      refine g_virtual (p := 44) (Qc := _) lk_17_6 rfl (Nat.le_of_ble_eq_true rfl) rfl rfl (lay.on (by decide) rfl) (Nat.le_of_ble_eq_true rfl) (Nat.le_of_ble_eq_true rfl) (Nat.zero_le _) (Nat.zero_le _) (c_Areas_numberOf lay hT hM (by omega) (by omega)) ?_
      rintro _ N1 ⟨rfl, hN1⟩
      rw [hN1]
      show Wp _ 17 9 [(2, ((110 : Nat) : Int)), (0, (rs : Int)), (0, (cs : Int)), (0, (dd : Int)), (9, 0), (9, 0), (9, 0), (9, 0), (9, 0), (9, 0), (9, 0)] [(0, (num T rs cs : Int))] M _ _ _
      refine g_istore (ls' := [(2, ((110 : Nat) : Int)), (0, (rs : Int)), (0, (cs : Int)), (0, (dd : Int)), (0, (num T rs cs : Int)), (9, 0), (9, 0), (9, 0), (9, 0), (9, 0), (9, 0)]) lk_17_9 rfl rfl ?_
      refine g_iload_n lk_17_11 rfl ?_
      refine g_bipush lk_17_12 ?_
      refine g_icmp (t := 27) lk_17_14 rfl (by first | (unfold pm_inI; omega) | exact pm_and_in _ _ | exact pm_shr_in _ _ | exact pm_or_in _ _ | exact pm_xor_in _ _ | exact pm_shl_in _ _ | exact pm_cmp_in _ _ | exact pm_b8_in _ | (unfold pm_inI; split <;> omega)) (by first | (unfold pm_inI; omega) | exact pm_and_in _ _ | exact pm_shr_in _ _ | exact pm_or_in _ _ | exact pm_xor_in _ _ | exact pm_shl_in _ _ | exact pm_cmp_in _ _ | exact pm_b8_in _ | (unfold pm_inI; split <;> omega)) (fun h2 => ?_) (fun h2 => ?_)
      · replace h2 : 12 < (dd : Int) := h2
        refine g_return lk_17_27 ?_
        omega
      · replace h2 : ¬ (12 < (dd : Int)) := h2
        refine g_iload lk_17_17 rfl ?_
        refine g_aload_n lk_17_19 rfl ?_
        refine m_getfield (u := []) (M := M) lk_17_20 rfl (lay.on (by decide) rfl) (v := ((w : Nat) : Int)) i4 ?_
        refine g_arraylength (n := nw) lk_17_23 (by decide) hay ?_
        refine g_icmp (t := 28) lk_17_24 rfl (by first | (unfold pm_inI; omega) | exact pm_and_in _ _ | exact pm_shr_in _ _ | exact pm_or_in _ _ | exact pm_xor_in _ _ | exact pm_shl_in _ _ | exact pm_cmp_in _ _ | exact pm_b8_in _ | (unfold pm_inI; split <;> omega)) (by first | (unfold pm_inI; omega) | exact pm_and_in _ _ | exact pm_shr_in _ _ | exact pm_or_in _ _ | exact pm_xor_in _ _ | exact pm_shl_in _ _ | exact pm_cmp_in _ _ | exact pm_b8_in _ | (unfold pm_inI; split <;> omega)) (fun h3 => ?_) (fun h3 => ?_)
        · replace h3 : (num T rs cs : Int) < ((nw : Nat) : Int) := h3
          refine g_aload_n lk_17_28 rfl ?_
          refine g_getfield lk_17_29 rfl (lay.on (by decide) rfl) (v := ((44 : Nat) : Int)) (lay.rf rfl) ?_
          refine g_iload lk_17_32 rfl ?_
          refine g_virtual (p := 44) (Qc := _) lk_17_34 rfl (Nat.le_of_ble_eq_true rfl) rfl rfl (lay.on (by decide) rfl) (Nat.le_of_ble_eq_true rfl) (Nat.le_of_ble_eq_true rfl) (Nat.zero_le _) (Nat.zero_le _) (ione) ?_
          rintro _ N4 ⟨rfl, hN4⟩
          rw [hN4]
          show Wp _ 17 37 [(2, ((110 : Nat) : Int)), (0, (rs : Int)), (0, (cs : Int)), (0, (dd : Int)), (0, (num T rs cs : Int)), (9, 0), (9, 0), (9, 0), (9, 0), (9, 0), (9, 0)] [(0, 1)] M _ _ _
          refine g_if (t := 65) lk_17_37 rfl (by first | (unfold pm_inI; omega) | exact pm_and_in _ _ | exact pm_shr_in _ _ | exact pm_or_in _ _ | exact pm_xor_in _ _ | exact pm_shl_in _ _ | exact pm_cmp_in _ _ | exact pm_b8_in _ | (unfold pm_inI; split <;> omega)) (fun h => absurd h (show ¬ ((1 : Int) = (0 : Int)) by omega)) (fun _ => ?_)
          refine g_aload_n lk_17_40 rfl ?_
          refine g_getfield lk_17_41 rfl (lay.on (by decide) rfl) (v := ((112 : Nat) : Int)) (lay.rf rfl) ?_
          refine g_iconst lk_17_44 ?_
          refine g_aload_n lk_17_45 rfl ?_
          refine g_getfield lk_17_46 rfl (lay.on (by decide) rfl) (v := ((44 : Nat) : Int)) (lay.rf rfl) ?_
          refine g_iload lk_17_49 rfl ?_
          refine g_virtual (p := 44) (Qc := _) lk_17_51 rfl (Nat.le_of_ble_eq_true rfl) rfl rfl (lay.on (by decide) rfl) (Nat.le_of_ble_eq_true rfl) (Nat.le_of_ble_eq_true rfl) (Nat.zero_le _) (Nat.zero_le _) (c_Areas_valuesOf lay hT hA hi.1 hi.2.1 hi.2.2.1 hi.2.2.2) ?_
          rintro _ N5 ⟨rfl, hN5⟩
          rw [hN5]
          show Wp _ 17 54 [(2, ((110 : Nat) : Int)), (0, (rs : Int)), (0, (cs : Int)), (0, (dd : Int)), (0, (num T rs cs : Int)), (9, 0), (9, 0), (9, 0), (9, 0), (9, 0), (9, 0)] [(0, (vIn T rs cs : Int)), (0, 0), (2, ((112 : Nat) : Int))] M _ _ _
          refine g_static (Qc := _) lk_17_54 (by decide) rfl (Nat.le_of_ble_eq_true rfl) rfl rfl (Nat.le_of_ble_eq_true rfl) (Nat.le_of_ble_eq_true rfl) (Nat.zero_le _) (Nat.zero_le _) (ov) ?_
          rintro _ N6 ⟨rfl, hN6⟩
          rw [hN6]
          show Wp _ 17 57 [(2, ((110 : Nat) : Int)), (0, (rs : Int)), (0, (cs : Int)), (0, (dd : Int)), (0, (num T rs cs : Int)), (9, 0), (9, 0), (9, 0), (9, 0), (9, 0), (9, 0)] [(0, z), (0, 0), (2, ((112 : Nat) : Int))] M _ _ _
          refine g_bipush lk_17_57 ?_
          refine g_irem lk_17_59 (by unfold pm_inI; omega) (by unfold pm_inI; omega) (by omega) ?_
          refine g_top (z := (z.tmod 10)) (z' := (lfv T rs cs : Int)) (e10) ?_
          refine g_virtual (p := 112) (Qc := _) lk_17_60 rfl (Nat.le_of_ble_eq_true rfl) rfl rfl (lay.on (by decide) rfl) (Nat.le_of_ble_eq_true rfl) (Nat.le_of_ble_eq_true rfl) (Nat.zero_le _) (Nat.zero_le _) (c_Nodes_add2 (x := 0) lay hct (by show k < 71; have : ([(0, lfv T rs cs, (-1 : Int))] : List Nd).length = 1 := rfl; omega)) ?_
          rintro _ K1 ⟨rfl, lay1, f1, c1, c2, c3, c4⟩
          show Wp _ 17 63 [(2, ((110 : Nat) : Int)), (0, (rs : Int)), (0, (cs : Int)), (0, (dd : Int)), (0, (num T rs cs : Int)), (9, 0), (9, 0), (9, 0), (9, 0), (9, 0), (9, 0)] [(0, (k : Int))] K1 _ _ _
          refine g_pop lk_17_63 rfl ?_
          refine g_return lk_17_64 ?_
          rw [hQ]
          refine ⟨rfl, lay1, mN f1, fun j _ => by rw [f1.ct (by decide)], ?_, ?_⟩
          · rw [c1, List.length_append, ← hk]; rfl
          · exact hL.push hk c2 c3 c4
        · replace h3 : ¬ ((num T rs cs : Int) < ((nw : Nat) : Int)) := h3
          refine g_return lk_17_27 ?_
          omega
    · have ione := c_Areas_isOneValue (d := d + n + 2) (mc := 0) (ms := 0) lay hT hA hi.1 hi.2.1 hi.2.2.1 hi.2.2.2
      rw [if_neg hal] at ione
      have tB1 := c_Best_talkOfB2 (d := d + n + 1) (mc := 0) (ms := 0) lay hT hM hA i2 hw i4 hay hn hi.1 hi.2.1 hi.2.2.1 hi.2.2.2 (fun q a b => hwo rs q hi.1 hi.2.1 a (by have := hi.2.2.2; omega))
      have p1 := spl_far (sb 2) (fun q => BW T 2 q cs) rs
      have p2 := spl_far (sb 2) (fun q => BW T 2 rs q) cs
      have p3 := prc_le hT hT.2.2.2.1.2 2 rs cs
      have p4 := prc_le hT hT.2.2.2.2.2 2 rs cs
      have ewA : wA T 2 rs cs = spl (sb 2) (fun q => BW T 2 q cs) rs + prc T 2 (tA T) rs cs := rfl
      have ewB : wB T 2 rs cs = spl (sb 2) (fun q => BW T 2 rs q) cs + prc T 2 (tB T) rs cs := rfl
      obtain ⟨xA, hxA⟩ : ∃ x, x = wA T 2 rs cs := ⟨_, rfl⟩
      obtain ⟨xB, hxB⟩ : ∃ x, x = wB T 2 rs cs := ⟨_, rfl⟩
      rw [← ewB, ← hxB] at tB1
      -- the split is known: one node, its parts
      have k113 : ∀ (K : pm_M) (ia sA sB : Nat) (z5 z7 : Int), Lay K → Fr [44] M K → (∀ j, j ≠ 3 → pm_ct K 44 j = pm_ct M 44 j) → (ia = 1 ∧ xA ≤ xB ∧ sA = pA T 2 rs cs ∧ sA < rs ∧ spC rs sA = true ∨ ia = 0 ∧ ¬ xA ≤ xB ∧ sB = pB' T 2 rs cs ∧ sB < cs ∧ spC cs sB = true) → Wp (d + (n + 1) + 3) 17 113 [(2, ((110 : Nat) : Int)), (0, (rs : Int)), (0, (cs : Int)), (0, (dd : Int)), (0, (num T rs cs : Int)), (0, z5), (0, (sB : Int)), (0, z7), (0, (sA : Int)), (0, (ia : Int)), (9, 0)] [] K mc ms Q := by
        intro K ia sA sB z5 z7 layK fK k44 hc
        have hctK : pm_ct K 112 3 = (k : Int) := by rw [fK.ct (by decide)]; exact hct
        have hLK : NdL K 113 114 115 L := hL.of (fK.ct (by decide)) (fK.ct (by decide)) (fK.ct (by decide))
        rcases hc with ⟨rfl, hx, hs1, hs2, hs3⟩ | ⟨rfl, hx, hs1, hs2, hs3⟩
        · obtain ⟨y1, y2, -, -, y5, y6, y7⟩ := spC_s r64 (by have := hi.1; omega) hs2 hs3
          have eg := gt_A (T := T) (h := 2) (n := n) (rs := rs) (cs := cs) (k := k) hal (by rw [← hxA, ← hxB]; exact hx)
          rw [← hs1] at eg
          rw [eg] at hQ h71
          obtain ⟨G1, hG1⟩ : ∃ G, G = gt T 2 n sA cs (k + 1) := ⟨_, rfl⟩
          obtain ⟨G2, hG2⟩ : ∃ G, G = gt T 2 n (rs - sA) cs (k + 1 + G1.length) := ⟨_, rfl⟩
          rw [← hG1, ← hG2] at hQ h71
          rw [List.length_cons, List.length_append] at h71
          have in1 : inT T sA cs := ⟨y1, by have := hi.2.1; omega, hi.2.2.1, hi.2.2.2⟩
          have in2 : inT T (rs - sA) cs := ⟨y2, by have := hi.2.1; omega, hi.2.2.1, hi.2.2.2⟩
          have xr : pm_xor (rs : Int) (sA : Int) = ((rs - sA : Nat) : Int) := xor_tab ⟨rs, r64⟩ ⟨sA, by omega⟩ (spC_sub hs3)
          obtain ⟨r2, hr2⟩ : ∃ r, r = rs - sA := ⟨_, rfl⟩
          rw [← hr2] at xr in2 hG2 y5 y7
          refine g_aload_n lk_17_113 rfl ?_
          refine g_getfield lk_17_114 rfl (layK.on (by decide) rfl) (v := ((112 : Nat) : Int)) (layK.rf rfl) ?_
          refine g_iload lk_17_117 rfl ?_
          refine g_if (t := 126) lk_17_119 rfl (by first | (unfold pm_inI; omega) | exact pm_and_in _ _ | exact pm_shr_in _ _ | exact pm_or_in _ _ | exact pm_xor_in _ _ | exact pm_shl_in _ _ | exact pm_cmp_in _ _ | exact pm_b8_in _ | (unfold pm_inI; split <;> omega)) (fun h => absurd h (show ¬ ((1 : Int) = (0 : Int)) by omega)) (fun _ => ?_)
          refine g_iconst lk_17_122 ?_
          refine g_goto (t := 127) lk_17_123 rfl ?_
          refine g_iload lk_17_127 rfl ?_
          refine g_if (t := 137) lk_17_129 rfl (by first | (unfold pm_inI; omega) | exact pm_and_in _ _ | exact pm_shr_in _ _ | exact pm_or_in _ _ | exact pm_xor_in _ _ | exact pm_shl_in _ _ | exact pm_cmp_in _ _ | exact pm_b8_in _ | (unfold pm_inI; split <;> omega)) (fun h => absurd h (show ¬ ((1 : Int) = (0 : Int)) by omega)) (fun _ => ?_)
          refine g_iload lk_17_132 rfl ?_
          refine g_goto (t := 139) lk_17_134 rfl ?_
          refine g_virtual (p := 112) (Qc := _) lk_17_139 rfl (Nat.le_of_ble_eq_true rfl) rfl rfl (layK.on (by decide) rfl) (Nat.le_of_ble_eq_true rfl) (Nat.le_of_ble_eq_true rfl) (Nat.zero_le _) (Nat.zero_le _) (c_Nodes_add2 (x := 1) (y := sA) layK hctK (by omega)) ?_
          rintro _ K1 ⟨rfl, lay1, f1, c1, c2, c3, c4⟩
          have F1 : Fr [44, 112, 113, 114, 115] M K1 := (m44 fK).trans (mN f1)
          have q1 : ∀ j, j ≠ 3 → pm_ct K1 44 j = pm_ct M 44 j := (fun j hj => by rw [f1.ct (by decide)]; exact k44 j hj)
          have L1 : NdL K1 113 114 115 (L ++ [(1, sA, -1)]) := hLK.push hk c2 c3 c4
          have e1 : (L ++ [((1, sA, -1) : Nd)]).length = k + 1 := (by rw [List.length_append, ← hk]; rfl)
          have g1 := ih d 0 0 sA cs (dd + 1) K1 (L ++ [(1, sA, -1)]) s w in1 (by omega) (by omega) lay1 (keepA F1 q1).1 (keepA F1 q1).2.1 (keepA F1 q1).2.2 hsw (by rw [e1]; exact c1) L1 (by rw [e1, ← hG1]; omega)
          rw [e1, ← hG1] at g1
          rw [show d + n + 3 = d + (n + 1) + 2 by omega] at g1
          show Wp _ 17 142 [(2, ((110 : Nat) : Int)), (0, (rs : Int)), (0, (cs : Int)), (0, (dd : Int)), (0, (num T rs cs : Int)), (0, z5), (0, (sB : Int)), (0, z7), (0, (sA : Int)), (0, 1), (9, 0)] [(0, (k : Int))] K1 _ _ _
          refine g_istore (ls' := [(2, ((110 : Nat) : Int)), (0, (rs : Int)), (0, (cs : Int)), (0, (dd : Int)), (0, (num T rs cs : Int)), (0, z5), (0, (sB : Int)), (0, z7), (0, (sA : Int)), (0, 1), (0, (k : Int))]) lk_17_142 rfl rfl ?_
          refine g_iload lk_17_144 rfl ?_
          refine g_if (t := 150) lk_17_146 rfl (by first | (unfold pm_inI; omega) | exact pm_and_in _ _ | exact pm_shr_in _ _ | exact pm_or_in _ _ | exact pm_xor_in _ _ | exact pm_shl_in _ _ | exact pm_cmp_in _ _ | exact pm_b8_in _ | (unfold pm_inI; split <;> omega)) (fun h1 => ?_) (fun h1 => ?_)
          · replace h1 : 0 ≤ (k : Int) := h1
            refine g_aload_n lk_17_150 rfl ?_
            refine g_iload lk_17_151 rfl ?_
            refine g_if (t := 161) lk_17_153 rfl (by first | (unfold pm_inI; omega) | exact pm_and_in _ _ | exact pm_shr_in _ _ | exact pm_or_in _ _ | exact pm_xor_in _ _ | exact pm_shl_in _ _ | exact pm_cmp_in _ _ | exact pm_b8_in _ | (unfold pm_inI; split <;> omega)) (fun h => absurd h (show ¬ ((1 : Int) = (0 : Int)) by omega)) (fun _ => ?_)
            refine g_iload lk_17_156 rfl ?_
            refine g_goto (t := 162) lk_17_158 rfl ?_
            refine g_iload lk_17_162 rfl ?_
            refine g_if (t := 171) lk_17_164 rfl (by first | (unfold pm_inI; omega) | exact pm_and_in _ _ | exact pm_shr_in _ _ | exact pm_or_in _ _ | exact pm_xor_in _ _ | exact pm_shl_in _ _ | exact pm_cmp_in _ _ | exact pm_b8_in _ | (unfold pm_inI; split <;> omega)) (fun h => absurd h (show ¬ ((1 : Int) = (0 : Int)) by omega)) (fun _ => ?_)
            refine g_iload_n lk_17_167 rfl ?_
            refine g_goto (t := 173) lk_17_168 rfl ?_
            refine g_iload_n lk_17_173 rfl ?_
            refine g_iconst lk_17_174 ?_
            refine g_iadd lk_17_175 ?_
            refine g_virtual (p := 110) (Qc := _) lk_17_176 rfl (Nat.le_of_ble_eq_true rfl) rfl rfl (lay1.on (by decide) rfl) (Nat.le_of_ble_eq_true rfl) (Nat.le_of_ble_eq_true rfl) (Nat.zero_le _) (Nat.zero_le _) (g1) ?_
            rintro _ K2 ⟨rfl, lay2, f2, q2, d1, L2⟩
            rw [List.length_append, e1] at d1
            have F2 : Fr [44, 112, 113, 114, 115] M K2 := F1.trans f2
            have q2' : ∀ j, j ≠ 3 → pm_ct K2 44 j = pm_ct M 44 j := (fun j hj => (q2 j hj).trans (q1 j hj))
            show Wp _ 17 179 [(2, ((110 : Nat) : Int)), (0, (rs : Int)), (0, (cs : Int)), (0, (dd : Int)), (0, (num T rs cs : Int)), (0, z5), (0, (sB : Int)), (0, z7), (0, (sA : Int)), (0, 1), (0, (k : Int))] [] K2 _ _ _
            refine g_aload_n lk_17_179 rfl ?_
            refine g_getfield lk_17_180 rfl (lay2.on (by decide) rfl) (v := ((112 : Nat) : Int)) (lay2.rf rfl) ?_
            refine g_getfield lk_17_183 rfl (lay2.on (by decide) rfl) (v := ((115 : Nat) : Int)) (lay2.rf rfl) ?_
            refine g_iload lk_17_186 rfl ?_
            refine g_aload_n lk_17_188 rfl ?_
            refine g_getfield lk_17_189 rfl (lay2.on (by decide) rfl) (v := ((112 : Nat) : Int)) (lay2.rf rfl) ?_
            refine m_getfield (u := []) (M := K2) lk_17_192 rfl (lay2.on (by decide) rfl) (v := ((k + 1 + G1.length : Nat) : Int)) d1 ?_
            have lay2 : Lay (Mu [(115, pm_upd (pm_ct K2 115) k ((k + 1 + G1.length : Nat) : Int))] K2) := lay2.muA (l := []) (a := 115) (f := pm_upd (pm_ct K2 115) k ((k + 1 + G1.length : Nat) : Int)) rfl rfl
            refine m_iastore (u := []) (u' := [(115, pm_upd (pm_ct K2 115) k ((k + 1 + G1.length : Nat) : Int))]) (M := K2) lk_17_195 (lay2.ay (by decide) rfl) (by omega) (j := k) (by omega) rfl ?_
            refine g_aload_n lk_17_196 rfl ?_
            refine g_iload lk_17_197 rfl ?_
            refine g_if (t := 209) lk_17_199 rfl (by first | (unfold pm_inI; omega) | exact pm_and_in _ _ | exact pm_shr_in _ _ | exact pm_or_in _ _ | exact pm_xor_in _ _ | exact pm_shl_in _ _ | exact pm_cmp_in _ _ | exact pm_b8_in _ | (unfold pm_inI; split <;> omega)) (fun h => absurd h (show ¬ ((1 : Int) = (0 : Int)) by omega)) (fun _ => ?_)
            refine g_iload_n lk_17_202 rfl ?_
            refine g_iload lk_17_203 rfl ?_
            refine g_ixor lk_17_205 ?_
            refine g_top (z := (pm_xor (rs : Int) (sA : Int))) (z' := (r2 : Int)) (xr) ?_
            refine g_goto (t := 210) lk_17_206 rfl ?_
            refine g_iload lk_17_210 rfl ?_
            refine g_if (t := 219) lk_17_212 rfl (by first | (unfold pm_inI; omega) | exact pm_and_in _ _ | exact pm_shr_in _ _ | exact pm_or_in _ _ | exact pm_xor_in _ _ | exact pm_shl_in _ _ | exact pm_cmp_in _ _ | exact pm_b8_in _ | (unfold pm_inI; split <;> omega)) (fun h => absurd h (show ¬ ((1 : Int) = (0 : Int)) by omega)) (fun _ => ?_)
            refine g_iload_n lk_17_215 rfl ?_
            refine g_goto (t := 223) lk_17_216 rfl ?_
            refine g_iload_n lk_17_223 rfl ?_
            refine g_iconst lk_17_224 ?_
            refine g_iadd lk_17_225 ?_
            have fM : Fr [115] K2 (Mu [(115, pm_upd (pm_ct K2 115) k ((k + 1 + G1.length : Nat) : Int))] K2) := Fr.mu _ _ rfl
            have F3 : Fr [44, 112, 113, 114, 115] M (Mu [(115, pm_upd (pm_ct K2 115) k ((k + 1 + G1.length : Nat) : Int))] K2) := F2.trans (fM.mono (fun a q => by simp at q; simp [q]))
            have q3 : ∀ j, j ≠ 3 → pm_ct (Mu [(115, pm_upd (pm_ct K2 115) k ((k + 1 + G1.length : Nat) : Int))] K2) 44 j = pm_ct M 44 j := fun j hj => by rw [fM.ct (by decide)]; exact q2' j hj
            have L3 : NdL (Mu [(115, pm_upd (pm_ct K2 115) k ((k + 1 + G1.length : Nat) : Int))] K2) 113 114 115 (L ++ [(1, sA, ((k + 1 + G1.length : Nat) : Int))] ++ G1) := L2.put hk (fM.ct (by decide)) (fM.ct (by decide)) (by rw [Mu_ct]; rfl)
            have e3 : (L ++ [((1, sA, ((k + 1 + G1.length : Nat) : Int)) : Nd)] ++ G1).length = k + 1 + G1.length := by rw [List.length_append, List.length_append, ← hk]; rfl
            have g2 := ih d 0 0 r2 cs (dd + 1) (Mu [(115, pm_upd (pm_ct K2 115) k ((k + 1 + G1.length : Nat) : Int))] K2) (L ++ [(1, sA, ((k + 1 + G1.length : Nat) : Int))] ++ G1) s w in2 (by omega) (by omega) lay2 (keepA F3 q3).1 (keepA F3 q3).2.1 (keepA F3 q3).2.2 hsw (by rw [e3, fM.ct (by decide)]; exact d1) L3 (by rw [e3, ← hG2]; omega)
            rw [e3, ← hG2] at g2
            rw [show d + n + 3 = d + (n + 1) + 2 by omega] at g2
            refine g_virtual (p := 110) (Qc := _) lk_17_226 rfl (Nat.le_of_ble_eq_true rfl) rfl rfl (lay2.on (by decide) rfl) (Nat.le_of_ble_eq_true rfl) (Nat.le_of_ble_eq_true rfl) (Nat.zero_le _) (Nat.zero_le _) g2 ?_
            rintro _ K3 ⟨rfl, lay3, f3, q4, d3, L4⟩
            refine g_return lk_17_229 ?_
            rw [hQ]
            have ea : L ++ [(1, sA, ((k + 1 + G1.length : Nat) : Int))] ++ G1 ++ G2 = L ++ (1, sA, ((k + 1 + G1.length : Nat) : Int)) :: (G1 ++ G2) := by simp
            rw [ea] at d3 L4
            exact ⟨rfl, lay3, F3.trans f3, fun j hj => (q4 j hj).trans (q3 j hj), d3, L4⟩
          · replace h1 : ¬ (0 ≤ (k : Int)) := h1
            refine g_return lk_17_149 ?_
            omega
        · obtain ⟨y1, y2, -, -, y5, y6, y7⟩ := spC_s c64 (by have := hi.2.2.1; omega) hs2 hs3
          have eg := gt_B (T := T) (h := 2) (n := n) (rs := rs) (cs := cs) (k := k) hal (by rw [← hxA, ← hxB]; exact hx)
          rw [← hs1] at eg
          rw [eg] at hQ h71
          obtain ⟨G1, hG1⟩ : ∃ G, G = gt T 2 n rs sB (k + 1) := ⟨_, rfl⟩
          obtain ⟨G2, hG2⟩ : ∃ G, G = gt T 2 n rs (cs - sB) (k + 1 + G1.length) := ⟨_, rfl⟩
          rw [← hG1, ← hG2] at hQ h71
          rw [List.length_cons, List.length_append] at h71
          have in1 : inT T rs sB := ⟨hi.1, hi.2.1, y1, by have := hi.2.2.2; omega⟩
          have in2 : inT T rs (cs - sB) := ⟨hi.1, hi.2.1, y2, by have := hi.2.2.2; omega⟩
          have xr : pm_xor (cs : Int) (sB : Int) = ((cs - sB : Nat) : Int) := xor_tab ⟨cs, c64⟩ ⟨sB, by omega⟩ (spC_sub hs3)
          obtain ⟨r2, hr2⟩ : ∃ r, r = cs - sB := ⟨_, rfl⟩
          rw [← hr2] at xr in2 hG2 y5 y7
          refine g_aload_n lk_17_113 rfl ?_
          refine g_getfield lk_17_114 rfl (layK.on (by decide) rfl) (v := ((112 : Nat) : Int)) (layK.rf rfl) ?_
          refine g_iload lk_17_117 rfl ?_
          refine g_if (t := 126) lk_17_119 rfl (by first | (unfold pm_inI; omega) | exact pm_and_in _ _ | exact pm_shr_in _ _ | exact pm_or_in _ _ | exact pm_xor_in _ _ | exact pm_shl_in _ _ | exact pm_cmp_in _ _ | exact pm_b8_in _ | (unfold pm_inI; split <;> omega)) (fun _ => ?_) (fun h => absurd (show (0 : Int) = (0 : Int) by omega) h)
          refine g_iconst lk_17_126 ?_
          refine g_iload lk_17_127 rfl ?_
          refine g_if (t := 137) lk_17_129 rfl (by first | (unfold pm_inI; omega) | exact pm_and_in _ _ | exact pm_shr_in _ _ | exact pm_or_in _ _ | exact pm_xor_in _ _ | exact pm_shl_in _ _ | exact pm_cmp_in _ _ | exact pm_b8_in _ | (unfold pm_inI; split <;> omega)) (fun _ => ?_) (fun h => absurd (show (0 : Int) = (0 : Int) by omega) h)
          refine g_iload lk_17_137 rfl ?_
          refine g_virtual (p := 112) (Qc := _) lk_17_139 rfl (Nat.le_of_ble_eq_true rfl) rfl rfl (layK.on (by decide) rfl) (Nat.le_of_ble_eq_true rfl) (Nat.le_of_ble_eq_true rfl) (Nat.zero_le _) (Nat.zero_le _) (c_Nodes_add2 (x := 2) (y := sB) layK hctK (by omega)) ?_
          rintro _ K1 ⟨rfl, lay1, f1, c1, c2, c3, c4⟩
          have F1 : Fr [44, 112, 113, 114, 115] M K1 := (m44 fK).trans (mN f1)
          have q1 : ∀ j, j ≠ 3 → pm_ct K1 44 j = pm_ct M 44 j := (fun j hj => by rw [f1.ct (by decide)]; exact k44 j hj)
          have L1 : NdL K1 113 114 115 (L ++ [(2, sB, -1)]) := hLK.push hk c2 c3 c4
          have e1 : (L ++ [((2, sB, -1) : Nd)]).length = k + 1 := (by rw [List.length_append, ← hk]; rfl)
          have g1 := ih d 0 0 rs sB (dd + 1) K1 (L ++ [(2, sB, -1)]) s w in1 (by omega) (by omega) lay1 (keepA F1 q1).1 (keepA F1 q1).2.1 (keepA F1 q1).2.2 hsw (by rw [e1]; exact c1) L1 (by rw [e1, ← hG1]; omega)
          rw [e1, ← hG1] at g1
          rw [show d + n + 3 = d + (n + 1) + 2 by omega] at g1
          show Wp _ 17 142 [(2, ((110 : Nat) : Int)), (0, (rs : Int)), (0, (cs : Int)), (0, (dd : Int)), (0, (num T rs cs : Int)), (0, z5), (0, (sB : Int)), (0, z7), (0, (sA : Int)), (0, 0), (9, 0)] [(0, (k : Int))] K1 _ _ _
          refine g_istore (ls' := [(2, ((110 : Nat) : Int)), (0, (rs : Int)), (0, (cs : Int)), (0, (dd : Int)), (0, (num T rs cs : Int)), (0, z5), (0, (sB : Int)), (0, z7), (0, (sA : Int)), (0, 0), (0, (k : Int))]) lk_17_142 rfl rfl ?_
          refine g_iload lk_17_144 rfl ?_
          refine g_if (t := 150) lk_17_146 rfl (by first | (unfold pm_inI; omega) | exact pm_and_in _ _ | exact pm_shr_in _ _ | exact pm_or_in _ _ | exact pm_xor_in _ _ | exact pm_shl_in _ _ | exact pm_cmp_in _ _ | exact pm_b8_in _ | (unfold pm_inI; split <;> omega)) (fun h1 => ?_) (fun h1 => ?_)
          · replace h1 : 0 ≤ (k : Int) := h1
            refine g_aload_n lk_17_150 rfl ?_
            refine g_iload lk_17_151 rfl ?_
            refine g_if (t := 161) lk_17_153 rfl (by first | (unfold pm_inI; omega) | exact pm_and_in _ _ | exact pm_shr_in _ _ | exact pm_or_in _ _ | exact pm_xor_in _ _ | exact pm_shl_in _ _ | exact pm_cmp_in _ _ | exact pm_b8_in _ | (unfold pm_inI; split <;> omega)) (fun _ => ?_) (fun h => absurd (show (0 : Int) = (0 : Int) by omega) h)
            refine g_iload_n lk_17_161 rfl ?_
            refine g_iload lk_17_162 rfl ?_
            refine g_if (t := 171) lk_17_164 rfl (by first | (unfold pm_inI; omega) | exact pm_and_in _ _ | exact pm_shr_in _ _ | exact pm_or_in _ _ | exact pm_xor_in _ _ | exact pm_shl_in _ _ | exact pm_cmp_in _ _ | exact pm_b8_in _ | (unfold pm_inI; split <;> omega)) (fun _ => ?_) (fun h => absurd (show (0 : Int) = (0 : Int) by omega) h)
            refine g_iload lk_17_171 rfl ?_
            refine g_iload_n lk_17_173 rfl ?_
            refine g_iconst lk_17_174 ?_
            refine g_iadd lk_17_175 ?_
            refine g_virtual (p := 110) (Qc := _) lk_17_176 rfl (Nat.le_of_ble_eq_true rfl) rfl rfl (lay1.on (by decide) rfl) (Nat.le_of_ble_eq_true rfl) (Nat.le_of_ble_eq_true rfl) (Nat.zero_le _) (Nat.zero_le _) (g1) ?_
            rintro _ K2 ⟨rfl, lay2, f2, q2, d1, L2⟩
            rw [List.length_append, e1] at d1
            have F2 : Fr [44, 112, 113, 114, 115] M K2 := F1.trans f2
            have q2' : ∀ j, j ≠ 3 → pm_ct K2 44 j = pm_ct M 44 j := (fun j hj => (q2 j hj).trans (q1 j hj))
            show Wp _ 17 179 [(2, ((110 : Nat) : Int)), (0, (rs : Int)), (0, (cs : Int)), (0, (dd : Int)), (0, (num T rs cs : Int)), (0, z5), (0, (sB : Int)), (0, z7), (0, (sA : Int)), (0, 0), (0, (k : Int))] [] K2 _ _ _
            refine g_aload_n lk_17_179 rfl ?_
            refine g_getfield lk_17_180 rfl (lay2.on (by decide) rfl) (v := ((112 : Nat) : Int)) (lay2.rf rfl) ?_
            refine g_getfield lk_17_183 rfl (lay2.on (by decide) rfl) (v := ((115 : Nat) : Int)) (lay2.rf rfl) ?_
            refine g_iload lk_17_186 rfl ?_
            refine g_aload_n lk_17_188 rfl ?_
            refine g_getfield lk_17_189 rfl (lay2.on (by decide) rfl) (v := ((112 : Nat) : Int)) (lay2.rf rfl) ?_
            refine m_getfield (u := []) (M := K2) lk_17_192 rfl (lay2.on (by decide) rfl) (v := ((k + 1 + G1.length : Nat) : Int)) d1 ?_
            have lay2 : Lay (Mu [(115, pm_upd (pm_ct K2 115) k ((k + 1 + G1.length : Nat) : Int))] K2) := lay2.muA (l := []) (a := 115) (f := pm_upd (pm_ct K2 115) k ((k + 1 + G1.length : Nat) : Int)) rfl rfl
            refine m_iastore (u := []) (u' := [(115, pm_upd (pm_ct K2 115) k ((k + 1 + G1.length : Nat) : Int))]) (M := K2) lk_17_195 (lay2.ay (by decide) rfl) (by omega) (j := k) (by omega) rfl ?_
            refine g_aload_n lk_17_196 rfl ?_
            refine g_iload lk_17_197 rfl ?_
            refine g_if (t := 209) lk_17_199 rfl (by first | (unfold pm_inI; omega) | exact pm_and_in _ _ | exact pm_shr_in _ _ | exact pm_or_in _ _ | exact pm_xor_in _ _ | exact pm_shl_in _ _ | exact pm_cmp_in _ _ | exact pm_b8_in _ | (unfold pm_inI; split <;> omega)) (fun _ => ?_) (fun h => absurd (show (0 : Int) = (0 : Int) by omega) h)
            refine g_iload_n lk_17_209 rfl ?_
            refine g_iload lk_17_210 rfl ?_
            refine g_if (t := 219) lk_17_212 rfl (by first | (unfold pm_inI; omega) | exact pm_and_in _ _ | exact pm_shr_in _ _ | exact pm_or_in _ _ | exact pm_xor_in _ _ | exact pm_shl_in _ _ | exact pm_cmp_in _ _ | exact pm_b8_in _ | (unfold pm_inI; split <;> omega)) (fun _ => ?_) (fun h => absurd (show (0 : Int) = (0 : Int) by omega) h)
            refine g_iload_n lk_17_219 rfl ?_
            refine g_iload lk_17_220 rfl ?_
            refine g_ixor lk_17_222 ?_
            refine g_top (z := (pm_xor (cs : Int) (sB : Int))) (z' := (r2 : Int)) (xr) ?_
            refine g_iload_n lk_17_223 rfl ?_
            refine g_iconst lk_17_224 ?_
            refine g_iadd lk_17_225 ?_
            have fM : Fr [115] K2 (Mu [(115, pm_upd (pm_ct K2 115) k ((k + 1 + G1.length : Nat) : Int))] K2) := Fr.mu _ _ rfl
            have F3 : Fr [44, 112, 113, 114, 115] M (Mu [(115, pm_upd (pm_ct K2 115) k ((k + 1 + G1.length : Nat) : Int))] K2) := F2.trans (fM.mono (fun a q => by simp at q; simp [q]))
            have q3 : ∀ j, j ≠ 3 → pm_ct (Mu [(115, pm_upd (pm_ct K2 115) k ((k + 1 + G1.length : Nat) : Int))] K2) 44 j = pm_ct M 44 j := fun j hj => by rw [fM.ct (by decide)]; exact q2' j hj
            have L3 : NdL (Mu [(115, pm_upd (pm_ct K2 115) k ((k + 1 + G1.length : Nat) : Int))] K2) 113 114 115 (L ++ [(2, sB, ((k + 1 + G1.length : Nat) : Int))] ++ G1) := L2.put hk (fM.ct (by decide)) (fM.ct (by decide)) (by rw [Mu_ct]; rfl)
            have e3 : (L ++ [((2, sB, ((k + 1 + G1.length : Nat) : Int)) : Nd)] ++ G1).length = k + 1 + G1.length := by rw [List.length_append, List.length_append, ← hk]; rfl
            have g2 := ih d 0 0 rs r2 (dd + 1) (Mu [(115, pm_upd (pm_ct K2 115) k ((k + 1 + G1.length : Nat) : Int))] K2) (L ++ [(2, sB, ((k + 1 + G1.length : Nat) : Int))] ++ G1) s w in2 (by omega) (by omega) lay2 (keepA F3 q3).1 (keepA F3 q3).2.1 (keepA F3 q3).2.2 hsw (by rw [e3, fM.ct (by decide)]; exact d1) L3 (by rw [e3, ← hG2]; omega)
            rw [e3, ← hG2] at g2
            rw [show d + n + 3 = d + (n + 1) + 2 by omega] at g2
            refine g_virtual (p := 110) (Qc := _) lk_17_226 rfl (Nat.le_of_ble_eq_true rfl) rfl rfl (lay2.on (by decide) rfl) (Nat.le_of_ble_eq_true rfl) (Nat.le_of_ble_eq_true rfl) (Nat.zero_le _) (Nat.zero_le _) g2 ?_
            rintro _ K3 ⟨rfl, lay3, f3, q4, d3, L4⟩
            refine g_return lk_17_229 ?_
            rw [hQ]
            have ea : L ++ [(2, sB, ((k + 1 + G1.length : Nat) : Int))] ++ G1 ++ G2 = L ++ (2, sB, ((k + 1 + G1.length : Nat) : Int)) :: (G1 ++ G2) := by simp
            rw [ea] at d3 L4
            exact ⟨rfl, lay3, F3.trans f3, fun j hj => (q4 j hj).trans (q3 j hj), d3, L4⟩
          · replace h1 : ¬ (0 ≤ (k : Int)) := h1
            refine g_return lk_17_149 ?_
            omega
      show Wp (d + (n + 1) + 3) 17 0 [(2, ((110 : Nat) : Int)), (0, (rs : Int)), (0, (cs : Int)), (0, (dd : Int)), (9, 0), (9, 0), (9, 0), (9, 0), (9, 0), (9, 0), (9, 0)] [] M mc ms Q
      refine g_aload_n lk_17_0 rfl ?_
      refine g_getfield lk_17_1 rfl (lay.on (by decide) rfl) (v := ((44 : Nat) : Int)) (lay.rf rfl) ?_
      refine g_iload_n lk_17_4 rfl ?_
      refine g_iload_n lk_17_5 rfl ?_
      refine g_virtual (p := 44) (Qc := _) lk_17_6 rfl (Nat.le_of_ble_eq_true rfl) rfl rfl (lay.on (by decide) rfl) (Nat.le_of_ble_eq_true rfl) (Nat.le_of_ble_eq_true rfl) (Nat.zero_le _) (Nat.zero_le _) (c_Areas_numberOf lay hT hM (by omega) (by omega)) ?_
      rintro _ N1 ⟨rfl, hN1⟩
      rw [hN1]
      show Wp _ 17 9 [(2, ((110 : Nat) : Int)), (0, (rs : Int)), (0, (cs : Int)), (0, (dd : Int)), (9, 0), (9, 0), (9, 0), (9, 0), (9, 0), (9, 0), (9, 0)] [(0, (num T rs cs : Int))] M _ _ _
      refine g_istore (ls' := [(2, ((110 : Nat) : Int)), (0, (rs : Int)), (0, (cs : Int)), (0, (dd : Int)), (0, (num T rs cs : Int)), (9, 0), (9, 0), (9, 0), (9, 0), (9, 0), (9, 0)]) lk_17_9 rfl rfl ?_
      refine g_iload_n lk_17_11 rfl ?_
      refine g_bipush lk_17_12 ?_
      refine g_icmp (t := 27) lk_17_14 rfl (by first | (unfold pm_inI; omega) | exact pm_and_in _ _ | exact pm_shr_in _ _ | exact pm_or_in _ _ | exact pm_xor_in _ _ | exact pm_shl_in _ _ | exact pm_cmp_in _ _ | exact pm_b8_in _ | (unfold pm_inI; split <;> omega)) (by first | (unfold pm_inI; omega) | exact pm_and_in _ _ | exact pm_shr_in _ _ | exact pm_or_in _ _ | exact pm_xor_in _ _ | exact pm_shl_in _ _ | exact pm_cmp_in _ _ | exact pm_b8_in _ | (unfold pm_inI; split <;> omega)) (fun h2 => ?_) (fun h2 => ?_)
      · replace h2 : 12 < (dd : Int) := h2
        refine g_return lk_17_27 ?_
        omega
      · replace h2 : ¬ (12 < (dd : Int)) := h2
        refine g_iload lk_17_17 rfl ?_
        refine g_aload_n lk_17_19 rfl ?_
        refine m_getfield (u := []) (M := M) lk_17_20 rfl (lay.on (by decide) rfl) (v := ((w : Nat) : Int)) i4 ?_
        refine g_arraylength (n := nw) lk_17_23 (by decide) hay ?_
        refine g_icmp (t := 28) lk_17_24 rfl (by first | (unfold pm_inI; omega) | exact pm_and_in _ _ | exact pm_shr_in _ _ | exact pm_or_in _ _ | exact pm_xor_in _ _ | exact pm_shl_in _ _ | exact pm_cmp_in _ _ | exact pm_b8_in _ | (unfold pm_inI; split <;> omega)) (by first | (unfold pm_inI; omega) | exact pm_and_in _ _ | exact pm_shr_in _ _ | exact pm_or_in _ _ | exact pm_xor_in _ _ | exact pm_shl_in _ _ | exact pm_cmp_in _ _ | exact pm_b8_in _ | (unfold pm_inI; split <;> omega)) (fun h3 => ?_) (fun h3 => ?_)
        · replace h3 : (num T rs cs : Int) < ((nw : Nat) : Int) := h3
          refine g_aload_n lk_17_28 rfl ?_
          refine g_getfield lk_17_29 rfl (lay.on (by decide) rfl) (v := ((44 : Nat) : Int)) (lay.rf rfl) ?_
          refine g_iload lk_17_32 rfl ?_
          refine g_virtual (p := 44) (Qc := _) lk_17_34 rfl (Nat.le_of_ble_eq_true rfl) rfl rfl (lay.on (by decide) rfl) (Nat.le_of_ble_eq_true rfl) (Nat.le_of_ble_eq_true rfl) (Nat.zero_le _) (Nat.zero_le _) (ione) ?_
          rintro _ N4 ⟨rfl, hN4⟩
          rw [hN4]
          show Wp _ 17 37 [(2, ((110 : Nat) : Int)), (0, (rs : Int)), (0, (cs : Int)), (0, (dd : Int)), (0, (num T rs cs : Int)), (9, 0), (9, 0), (9, 0), (9, 0), (9, 0), (9, 0)] [(0, 0)] M _ _ _
          refine g_if (t := 65) lk_17_37 rfl (by first | (unfold pm_inI; omega) | exact pm_and_in _ _ | exact pm_shr_in _ _ | exact pm_or_in _ _ | exact pm_xor_in _ _ | exact pm_shl_in _ _ | exact pm_cmp_in _ _ | exact pm_b8_in _ | (unfold pm_inI; split <;> omega)) (fun _ => ?_) (fun h => absurd (show (0 : Int) = (0 : Int) by omega) h)
          refine g_aload_n lk_17_65 rfl ?_
          refine g_iload_n lk_17_66 rfl ?_
          refine g_iload_n lk_17_67 rfl ?_
          refine g_virtual (p := 110) (Qc := _) lk_17_68 rfl (Nat.le_of_ble_eq_true rfl) rfl rfl (lay.on (by decide) rfl) (Nat.le_of_ble_eq_true rfl) (Nat.le_of_ble_eq_true rfl) (Nat.zero_le _) (Nat.zero_le _) (tB1) ?_
          rintro _ K1 ⟨rfl, layB, pkB, fB, fB3, kB, isB⟩
          have hMA : TbAt K1 24 T := hM.fr fB (by decide) (by decide)
          have hAA : CA K1 T s 1 := hA.fr fB.gr (fB3 1 (by decide)) (fB3 2 (by decide)) (fun q => own_ne hA.1 (a := 44) rfl (List.mem_singleton.mp q).symm)
          have ewK : pm_ct K1 w = pm_ct M w := fB.ct (fun q => own_ne hw (a := 44) rfl (List.mem_singleton.mp q).symm)
          have tA1 := c_Best_talkOfA2 (d := d + n + 1) (mc := 0) (ms := 0) layB hT hMA hAA (by rw [fB.ct (by decide)]; exact i2) hw (by rw [fB.ct (by decide)]; exact i4) (fB.ay hay) hn hi.1 hi.2.1 hi.2.2.1 hi.2.2.2 (fun q a b => by rw [ewK]; exact hwo q cs a (by have := hi.2.1; omega) hi.2.2.1 hi.2.2.2)
          rw [← ewA, ← hxA] at tA1
          show Wp _ 17 71 [(2, ((110 : Nat) : Int)), (0, (rs : Int)), (0, (cs : Int)), (0, (dd : Int)), (0, (num T rs cs : Int)), (9, 0), (9, 0), (9, 0), (9, 0), (9, 0), (9, 0)] [(0, (xB : Int))] K1 _ _ _
          refine g_istore (ls' := [(2, ((110 : Nat) : Int)), (0, (rs : Int)), (0, (cs : Int)), (0, (dd : Int)), (0, (num T rs cs : Int)), (0, (xB : Int)), (9, 0), (9, 0), (9, 0), (9, 0), (9, 0)]) lk_17_71 rfl rfl ?_
          refine g_aload_n lk_17_73 rfl ?_
          refine g_getfield lk_17_74 rfl (layB.on (by decide) rfl) (v := ((44 : Nat) : Int)) (layB.rf rfl) ?_
          refine m_getfield (u := []) (M := K1) lk_17_77 rfl (layB.on (by decide) rfl) (v := (pkB : Int)) kB ?_
          refine g_istore (ls' := [(2, ((110 : Nat) : Int)), (0, (rs : Int)), (0, (cs : Int)), (0, (dd : Int)), (0, (num T rs cs : Int)), (0, (xB : Int)), (0, (pkB : Int)), (9, 0), (9, 0), (9, 0), (9, 0)]) lk_17_80 rfl rfl ?_
          refine g_aload_n lk_17_82 rfl ?_
          refine g_iload_n lk_17_83 rfl ?_
          refine g_iload_n lk_17_84 rfl ?_
          refine g_virtual (p := 110) (Qc := _) lk_17_85 rfl (Nat.le_of_ble_eq_true rfl) rfl rfl (layB.on (by decide) rfl) (Nat.le_of_ble_eq_true rfl) (Nat.le_of_ble_eq_true rfl) (Nat.zero_le _) (Nat.zero_le _) (tA1) ?_
          rintro _ K2 ⟨rfl, layA, pkA, fA, fA3, kA, isA⟩
          show Wp _ 17 88 [(2, ((110 : Nat) : Int)), (0, (rs : Int)), (0, (cs : Int)), (0, (dd : Int)), (0, (num T rs cs : Int)), (0, (xB : Int)), (0, (pkB : Int)), (9, 0), (9, 0), (9, 0), (9, 0)] [(0, (xA : Int))] K2 _ _ _
          refine g_istore (ls' := [(2, ((110 : Nat) : Int)), (0, (rs : Int)), (0, (cs : Int)), (0, (dd : Int)), (0, (num T rs cs : Int)), (0, (xB : Int)), (0, (pkB : Int)), (0, (xA : Int)), (9, 0), (9, 0), (9, 0)]) lk_17_88 rfl rfl ?_
          refine g_aload_n lk_17_90 rfl ?_
          refine g_getfield lk_17_91 rfl (layA.on (by decide) rfl) (v := ((44 : Nat) : Int)) (layA.rf rfl) ?_
          refine m_getfield (u := []) (M := K2) lk_17_94 rfl (layA.on (by decide) rfl) (v := (pkA : Int)) kA ?_
          refine g_istore (ls' := [(2, ((110 : Nat) : Int)), (0, (rs : Int)), (0, (cs : Int)), (0, (dd : Int)), (0, (num T rs cs : Int)), (0, (xB : Int)), (0, (pkB : Int)), (0, (xA : Int)), (0, (pkA : Int)), (9, 0), (9, 0)]) lk_17_97 rfl rfl ?_
          refine g_iload lk_17_99 rfl ?_
          refine g_iload lk_17_101 rfl ?_
          refine g_icmp (t := 110) lk_17_103 rfl (by first | (unfold pm_inI; omega) | exact pm_and_in _ _ | exact pm_shr_in _ _ | exact pm_or_in _ _ | exact pm_xor_in _ _ | exact pm_shl_in _ _ | exact pm_cmp_in _ _ | exact pm_b8_in _ | (unfold pm_inI; split <;> omega)) (by first | (unfold pm_inI; omega) | exact pm_and_in _ _ | exact pm_shr_in _ _ | exact pm_or_in _ _ | exact pm_xor_in _ _ | exact pm_shl_in _ _ | exact pm_cmp_in _ _ | exact pm_b8_in _ | (unfold pm_inI; split <;> omega)) (fun h5 => ?_) (fun h5 => ?_)
          · replace h5 : (xB : Int) < (xA : Int) := h5
            refine g_iconst lk_17_110 ?_
            refine g_istore (ls' := [(2, ((110 : Nat) : Int)), (0, (rs : Int)), (0, (cs : Int)), (0, (dd : Int)), (0, (num T rs cs : Int)), (0, (xB : Int)), (0, (pkB : Int)), (0, (xA : Int)), (0, (pkA : Int)), (0, 0), (9, 0)]) lk_17_111 rfl rfl ?_
            have hx : ¬ xA ≤ xB := by omega
            obtain ⟨e1, e2, e3, -⟩ := isB.eq (pick_B hT hi hal (by rw [← hxA, ← hxB]; exact hx))
            exact k113 K2 0 pkA pkB _ _ layA (fB.trans fA) (fun j hj => (fA3 j hj).trans (fB3 j hj)) (Or.inr ⟨rfl, hx, e1, e2, e3⟩)
          · replace h5 : ¬ ((xB : Int) < (xA : Int)) := h5
            refine g_iconst lk_17_106 ?_
            refine g_goto (t := 111) lk_17_107 rfl ?_
            refine g_istore (ls' := [(2, ((110 : Nat) : Int)), (0, (rs : Int)), (0, (cs : Int)), (0, (dd : Int)), (0, (num T rs cs : Int)), (0, (xB : Int)), (0, (pkB : Int)), (0, (xA : Int)), (0, (pkA : Int)), (0, 1), (9, 0)]) lk_17_111 rfl rfl ?_
            have hx : xA ≤ xB := by omega
            obtain ⟨e1, e2, e3, -⟩ := isA.eq (pick_A hT hi hal (by rw [← hxA, ← hxB]; exact hx))
            exact k113 K2 1 pkA pkB _ _ layA (fB.trans fA) (fun j hj => (fA3 j hj).trans (fB3 j hj)) (Or.inl ⟨rfl, hx, e1, e2, e3⟩)
        · replace h3 : ¬ ((num T rs cs : Int) < ((nw : Nat) : Int)) := h3
          refine g_return lk_17_27 ?_
          omega
