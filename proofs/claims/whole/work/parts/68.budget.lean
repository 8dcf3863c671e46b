/-! ===== Spoilt: one budget more ===== -/
theorem mk2 {b : Prop} {z : Int} (h : z = 1 ∧ b ∨ z = 0 ∧ ¬ b) : 0 ≤ z ∧ z ≤ 1 := by rcases h with q | q <;> omega
set_option maxHeartbeats 16000000 in
theorem c_Spoilt_addBudget {d mc ms : Nat} {M : pm_M} (lay0 : Lay M) {T : Tab} (hT : TabOK T) (hM0 : TbAt M 24 T) {cn n L f : Nat} (oc : own cn) (w3 : pm_ct M 51 3 = ((cn : Nat) : Int)) (hay0 : pm_ay M cn 101 n) (hn : siz T ≤ n) (hL : L < 20) (hlv : LvOK M T cn L) (hf5 : pm_ct M 51 5 = (f : Int)) (hfl : Flb T f L) :
    pm_E (d + 2) 79 [(2, ((51 : Nat) : Int)), (0, ((L + 1 : Nat) : Int))] M mc ms (fun ρ M' => ρ = none ∧ Lay M' ∧ Fr [51, cn] M M' ∧ (∀ j, j ≠ 5 → pm_ct M' 51 j = pm_ct M 51 j) ∧ LvOK M' T cn (L + 1) ∧ ∃ f', pm_ct M' 51 5 = ((f' : Nat) : Int) ∧ Flb T f' (L + 1)) := by
  obtain ⟨Q, hQ⟩ : ∃ Q : pm_Q, Q = (fun ρ M' => ρ = none ∧ Lay M' ∧ Fr [51, cn] M M' ∧ (∀ j, j ≠ 5 → pm_ct M' 51 j = pm_ct M 51 j) ∧ LvOK M' T cn (L + 1) ∧ ∃ f', pm_ct M' 51 5 = ((f' : Nat) : Int) ∧ Flb T f' (L + 1)) := ⟨_, rfl⟩
  rw [← hQ]
  have ht : (24 : Nat) = 4 ∨ (24 : Nat) = 24 := Or.inr rfl
  have hR6 := tR_64 hT
  have hC6 := tC_64 hT
  have pR : 1 ≤ 2 ^ tR T := Nat.one_le_two_pow
  have pC : 1 ≤ 2 ^ tC T := Nat.one_le_two_pow
  have z4 := siz_le hT
  have ca := hT.2.2.2.1
  have cb := hT.2.2.2.2
  have fre := own_fre oc
  obtain ⟨k, hk⟩ : ∃ k, k = L + 1 := ⟨_, rfl⟩
  have nn : ∀ a, (a == 45 || a == 49 || a == 50 || a == 53 || a == 99 || a == 105 || a == 111 || Nat.ble 157 a) = false → a ≠ 51 → a ∉ [51, cn] := fun a h1 h2 q => by
    simp at q
    rcases q with q | q
    · exact h2 q
    · exact own_ne oc h1 q
  have c51 : (51 : Nat) ≠ cn := own_ne oc rfl
  have p2 : 2 ^ (L + 1) ≤ 2 ^ 20 := Nat.pow_le_pow_right (by omega) (by omega)
  have p3 : 2 ^ (L + 1 + 1) ≤ 2 ^ 21 := Nat.pow_le_pow_right (by omega) (by omega)
  have f31 : f < 2147483648 := by have := hfl.1; omega
  -- what parts may bring
  obtain ⟨bA, hbA⟩ : ∃ bA : Nat, bA = if tA T ≤ k ∧ f.testBit (k - tA T) = true then 1 else 0 := ⟨_, rfl⟩
  obtain ⟨bB, hbB⟩ : ∃ bB : Nat, bB = if tB T ≤ k ∧ f.testBit (k - tB T) = true then 1 else 0 := ⟨_, rfl⟩
  have bA1 : bA ≤ 1 := by rw [hbA]; split <;> omega
  have bB1 : bB ≤ 1 := by rw [hbB]; split <;> omega
  have noA : bA = 0 → ∀ rs cs, inT T rs cs → ER T L rs cs ≤ SA T k rs cs := fun h rs cs hi => by
    rw [hbA] at h
    by_cases q : tA T ≤ k
    · have tb : f.testBit (k - tA T) = false := Bool.eq_false_iff.mpr (fun z => by rw [if_pos ⟨q, z⟩] at h; omega)
      have k0 : k - tA T ≠ 0 := fun z => by rw [z, hfl.2.1] at tb; cases tb
      rw [hk]
      refine SA_same hT hi (by omega) (fun a b hab => ?_)
      have := hfl.2.2 (k - tA T) (by omega) (by omega) tb a b hab
      rw [hk] at this
      rw [this, show L + 1 - tA T - 1 = L - tA T by omega]
    · have : SA T k rs cs = 1000000 := by unfold SA; rw [if_neg q]
      have := ER_36 hT L hi
      omega
  have noB : bB = 0 → ∀ rs cs, inT T rs cs → ER T L rs cs ≤ SB T k rs cs := fun h rs cs hi => by
    rw [hbB] at h
    by_cases q : tB T ≤ k
    · have tb : f.testBit (k - tB T) = false := Bool.eq_false_iff.mpr (fun z => by rw [if_pos ⟨q, z⟩] at h; omega)
      have k0 : k - tB T ≠ 0 := fun z => by rw [z, hfl.2.1] at tb; cases tb
      rw [hk]
      refine SB_same hT hi (by omega) (fun a b hab => ?_)
      have := hfl.2.2 (k - tB T) (by omega) (by omega) tb a b hab
      rw [hk] at this
      rw [this, show L + 1 - tB T - 1 = L - tB T by omega]
    · have : SB T k rs cs = 1000000 := by unfold SB; rw [if_neg q]
      have := ER_36 hT L hi
      omega
  have yesA : ¬ bA = 0 → tA T ≤ k := fun h => by
    rw [hbA] at h
    exact Classical.byContradiction (fun q => h (by rw [if_neg (fun z => q z.1)]))
  have yesB : ¬ bB = 0 → tB T ≤ k := fun h => by
    rw [hbB] at h
    exact Classical.byContradiction (fun q => h (by rw [if_neg (fun z => q z.1)]))
  -- the numbers while one goes over the areas; g: what fell so far
  obtain ⟨St, hSt⟩ : ∃ St : pm_M → Nat → Nat → Nat → Prop, St = fun (N : pm_M) (g rs cs : Nat) => Lay N ∧ Fr [51, cn] M N ∧ (∀ j, j ≠ 5 → pm_ct N 51 j = pm_ct M 51 j) ∧ pm_ct N 51 5 = (g : Int) ∧ (g = f ∨ g = f ||| 2 ^ k) ∧ (g.testBit k = false → ∀ a b, inT T a b → bef rs cs a b → ER T k a b = ER T L a b) ∧ (∀ a b, inT T a b → bef rs cs a b → ∃ c : Nat, pm_ct N cn (num T a b) = (c : Int) ∧ PkL c k (fun e => ER T e a b)) ∧ (∀ a b, inT T a b → ¬ bef rs cs a b → ∃ c : Nat, pm_ct N cn (num T a b) = (c : Int) ∧ PkL c L (fun e => ER T e a b)) := ⟨_, rfl⟩
  have rows : ∀ (m i g : Nat) (v7 v8 v9 v10 : pm_V) (N : pm_M), i + m = 2 ^ tR T - 1 → St N g (i + 1) 1 → Wp (d + 2) 79 47 [(2, ((51 : Nat) : Int)), (0, (k : Int)), (0, (bA : Int)), (0, (bB : Int)), (0, ((2 ^ tR T - 1 : Nat) : Int)), (0, ((2 ^ tC T - 1 : Nat) : Int)), (0, ((i + 1 : Nat) : Int)), v7, v8, v9, v10] [] N mc ms Q := by
    intro m
    induction m with
    | zero =>
      intro i g v7 v8 v9 v10 N hi hst
      rw [hSt] at hst
      obtain ⟨lay, hF, h51, hg5, hgf, hgk, hd, -⟩ := hst
      have all : ∀ a b, inT T a b → bef (i + 1) 1 a b := fun a b h => Or.inl (by have := h.2.1; omega)
      have gl : Flb T g (L + 1) := by
        rw [← hk]
        refine ⟨?_, ?_, fun j j1 j2 j3 a b h => ?_⟩
        · rcases hgf with e | e
          · rw [e, hk]; exact Nat.lt_of_lt_of_le hfl.1 (Nat.pow_le_pow_right (by omega) (by omega))
          · rw [e]
            refine Nat.or_lt_two_pow ?_ (Nat.pow_lt_pow_right (by omega) (by omega))
            rw [hk]; exact Nat.lt_of_lt_of_le hfl.1 (Nat.pow_le_pow_right (by omega) (by omega))
        · rcases hgf with e | e
          · rw [e]; exact hfl.2.1
          · rw [e, Nat.testBit_or, hfl.2.1]; rfl
        · by_cases e : j = k
          · rw [e] at j3 ⊢
            rw [hgk j3 a b h (all a b h), hk]; rfl
          · refine hfl.2.2 j j1 (by omega) ?_ a b h
            rcases hgf with q | q
            · rw [← q]; exact j3
            · rw [q, Nat.testBit_or, Bool.or_eq_false_iff] at j3
              exact j3.1
      refine g_iload lk_79_47 rfl ?_
      refine g_iload lk_79_49 rfl ?_
      refine g_icmp (t := 233) lk_79_51 rfl (by first | (unfold pm_inI; omega) | exact pm_and_in _ _ | exact pm_shr_in _ _ | exact pm_or_in _ _ | exact pm_xor_in _ _ | exact pm_shl_in _ _ | exact pm_cmp_in _ _ | exact pm_b8_in _ | (unfold pm_inI; split <;> omega)) (by first | (unfold pm_inI; omega) | exact pm_and_in _ _ | exact pm_shr_in _ _ | exact pm_or_in _ _ | exact pm_xor_in _ _ | exact pm_shl_in _ _ | exact pm_cmp_in _ _ | exact pm_b8_in _ | (unfold pm_inI; split <;> omega)) (fun h1 => ?_) (fun h1 => ?_)
      · replace h1 : ((2 ^ tR T - 1 : Nat) : Int) < ((i + 1 : Nat) : Int) := h1
        refine g_return lk_79_233 ?_
        rw [hQ]
        refine ⟨rfl, lay, hF, h51, fun a b h => ?_, g, hg5, gl⟩
        rw [← hk]; exact hd a b h (all a b h)
      · replace h1 : ¬ (((2 ^ tR T - 1 : Nat) : Int) < ((i + 1 : Nat) : Int)) := h1
        omega
    | succ m ih =>
      intro i g v7 v8 v9 v10 N hi hst
      obtain ⟨rs, hrs⟩ : ∃ rs, rs = i + 1 := ⟨_, rfl⟩
      have inner : ∀ (m j g : Nat) (v8 v9 v10 : pm_V) (N : pm_M), j + m = 2 ^ tC T - 1 → St N g rs (j + 1) → Wp (d + 2) 79 57 [(2, ((51 : Nat) : Int)), (0, (k : Int)), (0, (bA : Int)), (0, (bB : Int)), (0, ((2 ^ tR T - 1 : Nat) : Int)), (0, ((2 ^ tC T - 1 : Nat) : Int)), (0, (rs : Int)), (0, ((j + 1 : Nat) : Int)), v8, v9, v10] [] N mc ms Q := by
        intro m
        induction m with
        | zero =>
          intro j g v8 v9 v10 N hj hst
          have hst2 : St N g (i + 1 + 1) 1 := by
            rw [hSt] at hst ⊢
            obtain ⟨lay, hF, h51, hg5, hgf, hgk, hd, ho⟩ := hst
            have iff : ∀ a b, inT T a b → (bef (i + 1 + 1) 1 a b ↔ bef rs (j + 1) a b) := fun a b h => by
              have h1 := h.2.2.1
              have h2 := h.2.2.2
              unfold bef
              constructor
              · rintro (q | q)
                · by_cases e : a = rs
                  · exact Or.inr ⟨e, by omega⟩
                  · exact Or.inl (by omega)
                · omega
              · rintro (q | q)
                · exact Or.inl (by omega)
                · exact Or.inl (by omega)
            exact ⟨lay, hF, h51, hg5, hgf, fun q a b h z => hgk q a b h ((iff a b h).mp z), fun a b h q => hd a b h ((iff a b h).mp q), fun a b h q => ho a b h (fun z => q ((iff a b h).mpr z))⟩
          have := fun v7 v8 v9 v10 => ih (i + 1) g v7 v8 v9 v10 N (by omega) hst2
          rw [← hrs] at this
          have lay : Lay N := by rw [hSt] at hst; exact hst.1
          refine g_iload lk_79_57 rfl ?_
          refine g_iload lk_79_59 rfl ?_
          refine g_icmp (t := 227) lk_79_61 rfl (by first | (unfold pm_inI; omega) | exact pm_and_in _ _ | exact pm_shr_in _ _ | exact pm_or_in _ _ | exact pm_xor_in _ _ | exact pm_shl_in _ _ | exact pm_cmp_in _ _ | exact pm_b8_in _ | (unfold pm_inI; split <;> omega)) (by first | (unfold pm_inI; omega) | exact pm_and_in _ _ | exact pm_shr_in _ _ | exact pm_or_in _ _ | exact pm_xor_in _ _ | exact pm_shl_in _ _ | exact pm_cmp_in _ _ | exact pm_b8_in _ | (unfold pm_inI; split <;> omega)) (fun h1 => ?_) (fun h1 => ?_)
          · replace h1 : ((2 ^ tC T - 1 : Nat) : Int) < ((j + 1 : Nat) : Int) := h1
            refine g_iinc (ls' := [(2, ((51 : Nat) : Int)), (0, (k : Int)), (0, (bA : Int)), (0, (bB : Int)), (0, ((2 ^ tR T - 1 : Nat) : Int)), (0, ((2 ^ tC T - 1 : Nat) : Int)), (0, ((rs : Int) + 1)), (0, ((j + 1 : Nat) : Int)), v8, v9, v10]) lk_79_227 rfl rfl rfl ?_
            refine g_goto (t := 47) lk_79_230 rfl ?_
            exact this _ _ _ _
          · replace h1 : ¬ (((2 ^ tC T - 1 : Nat) : Int) < ((j + 1 : Nat) : Int)) := h1
            omega
        | succ m ihm =>
          intro j g v8 v9 v10 N hj hst
          obtain ⟨cs, hcs⟩ : ∃ cs, cs = j + 1 := ⟨_, rfl⟩
          rw [← hcs] at hst ⊢
          rw [hSt] at hst
          obtain ⟨lay, hF, h51, hg5, hgf, hgk, hd, ho⟩ := hst
          have hin : inT T rs cs := ⟨by omega, by omega, by omega, by omega⟩
          have r64 : rs < 64 := by omega
          have c64 : cs < 64 := by omega
          have hM : TbAt N 24 T := hM0.fr hF (nn 24 rfl (by decide)) (nn 25 rfl (by decide))
          have e3 : pm_ct N 51 3 = ((cn : Nat) : Int) := by rw [h51 3 (by decide)]; exact w3
          have ay := hF.ay hay0
          have nl := num_lt (T := T) hin.2.1 hin.2.2.2
          obtain ⟨c, rd, pk⟩ := ho rs cs hin (by unfold bef; omega)
          have pk0 := pk.2 0 (by omega) (by omega)
          rw [Nat.pow_zero, Nat.div_one, Nat.sub_zero] at pk0
          obtain ⟨e, he⟩ : ∃ e, e = ER T L rs cs := ⟨_, rfl⟩
          replace pk0 : c % 64 = e := by rw [he]; exact pk0
          have c60 := pk.1
          have e36 := ER_36 hT L hin
          rw [← he] at e36
          have and63 : pm_andL (c : Int) 63 = (e : Int) := by
            have h2 := pm_andL_n (a := c) (b := 63) (by omega)
            rw [show ((63 : Nat) : Int) = 63 from rfl] at h2
            rw [h2, show (63 : Nat) = 2 ^ 6 - 1 from rfl, Nat.and_two_pow_sub_one_eq_mod]
            rw [show c % 2 ^ 6 = e from pk0]
          have step := ER_step hT (b := L) hin
          rw [← hk, ← he] at step
          have gl : g < 2 ^ 21 := by
            rcases hgf with q | q
            · rw [q]; have := hfl.1; omega
            · rw [q]; exact Nat.or_lt_two_pow (by have := hfl.1; omega) (Nat.pow_lt_pow_right (by omega) (by omega))
          -- the new count comes in
          have k196 : ∀ (K : pm_M) (x g' : Nat), Lay K → Fr [51] N K → (∀ j, j ≠ 5 → pm_ct K 51 j = pm_ct N 51 j) → pm_ct K 51 5 = (g' : Int) → x = ER T k rs cs → (g' = g ∧ x = e ∨ g' = g ||| 2 ^ k) → Wp (d + 2) 79 196 [(2, ((51 : Nat) : Int)), (0, (k : Int)), (0, (bA : Int)), (0, (bB : Int)), (0, ((2 ^ tR T - 1 : Nat) : Int)), (0, ((2 ^ tC T - 1 : Nat) : Int)), (0, (rs : Int)), (0, (cs : Int)), (0, (num T rs cs : Int)), (0, (e : Int)), (0, (x : Int))] [] K mc ms Q := by
            intro K x g' layK fK k51 kg5 hx hg'
            have cK : pm_ct K cn = pm_ct N cn := fK.ct (fun q => c51 (List.mem_singleton.mp q).symm)
            have rdK : pm_ct K cn (num T rs cs) = (c : Int) := by rw [cK]; exact rd
            have e3K : pm_ct K 51 3 = ((cn : Nat) : Int) := by rw [k51 3 (by decide)]; exact e3
            have x36 := ER_36 hT k hin
            rw [← hx] at x36
            have ps := pm_push (c := c) (x := x) c60 (by omega)
            obtain ⟨c', hc'⟩ : ∃ c', c' = (c * 64 + x) % 1152921504606846976 := ⟨_, rfl⟩
            rw [← hc'] at ps
            have pk' : PkL c' k (fun b => ER T b rs cs) := by
              rw [hc', hk]
              exact PkL_push pk (by omega) (by rw [hx, hk])
            refine g_aload_n lk_79_196 rfl ?_
            refine m_getfield (u := []) (M := K) lk_79_197 rfl (layK.on (by decide) rfl) (v := ((cn : Nat) : Int)) e3K ?_
            refine g_iload lk_79_200 rfl ?_
            refine g_aload_n lk_79_202 rfl ?_
            refine m_getfield (u := []) (M := K) lk_79_203 rfl (layK.on (by decide) rfl) (v := ((cn : Nat) : Int)) e3K ?_
            refine g_iload lk_79_206 rfl ?_
            refine g_laload lk_79_208 (fK.ay ay) (by omega) (v := (c : Int)) rdK ?_
            refine g_bipush lk_79_209 ?_
            refine g_lshl lk_79_211 ?_
            refine g_iload lk_79_212 rfl ?_
            refine g_i2l lk_79_214 (by unfold pm_inI; omega) ?_
            refine g_lor lk_79_215 ?_
            refine g_ldc2_w lk_79_216 ?_
            refine g_land lk_79_219 ?_
            refine g_top (z := (pm_andL (pm_orL (pm_shlL (c : Int) 6) (x : Int)) 1152921504606846975)) (z' := (c' : Int)) (ps) ?_
            refine s_lastore (M := K) lk_79_220 (fK.ay ay) (by omega) (j := (num T rs cs)) (by omega) (fun N1 hN1 => ?_)
            have lay1 : Lay N1 := (by rw [hN1]; exact layK.upA fre)
            refine g_iinc (ls' := [(2, ((51 : Nat) : Int)), (0, (k : Int)), (0, (bA : Int)), (0, (bB : Int)), (0, ((2 ^ tR T - 1 : Nat) : Int)), (0, ((2 ^ tC T - 1 : Nat) : Int)), (0, (rs : Int)), (0, ((cs : Int) + 1)), (0, (num T rs cs : Int)), (0, (e : Int)), (0, (x : Int))]) lk_79_221 rfl rfl rfl ?_
            refine g_goto (t := 57) lk_79_224 rfl ?_
            have := ihm (j + 1) g' (0, (num T rs cs : Int)) (0, (e : Int)) (0, (x : Int)) N1 (by omega) ?_
            · rw [← hcs] at this; exact this
            rw [← hcs, hSt]
            have cn' : pm_ct N1 cn = pm_upd (pm_ct N cn) (num T rs cs) (c' : Int) := by rw [up_ct hN1, cK]
            have f51 : pm_ct N1 51 = pm_ct K 51 := by rw [hN1, pm_ct_ne c51]
            have iff : ∀ a b, (bef rs (cs + 1) a b ↔ (bef rs cs a b ∨ (a = rs ∧ b = cs))) := fun a b => by unfold bef; omega
            refine ⟨lay1, (hF.trans (fK.mono (fun a q => by simp at q; simp [q]))).trans (Fr.up (by simp) hN1), fun j hj => by rw [f51, k51 j hj]; exact h51 j hj, by rw [f51]; exact kg5, ?_, fun q a b h z => ?_, fun a b h q => ?_, fun a b h q => ?_⟩
            · rcases hg' with q | q
              · rw [q.1]; exact hgf
              · right
                rcases hgf with z | z
                · rw [q, z]
                · rw [q, z, Nat.or_assoc, Nat.or_self]
            · rcases hg' with y | y
              · rcases (iff a b).mp z with w | w
                · rw [y.1] at q; exact hgk q a b h w
                · rw [w.1, w.2, ← hx, y.2, he]
              · rw [y, Nat.testBit_or, Nat.testBit_two_pow] at q
                simp at q
            · rw [cn']
              rcases (iff a b).mp q with w | w
              · rw [pm_upd_ne (fun y => by have := num_inj (T := T) h.2.2.2 hin.2.2.2 y; unfold bef at w; omega)]
                exact hd a b h w
              · rw [w.1, w.2, pm_upd_eq]; exact ⟨c', rfl, pk'⟩
            · rw [cn', pm_upd_ne (fun y => q ((iff a b).mpr (Or.inr (num_inj (T := T) h.2.2.2 hin.2.2.2 y))))]
              exact ho a b h (fun w => q ((iff a b).mpr (Or.inl w)))
          have k173 : ∀ x : Nat, x = ER T k rs cs → Wp (d + 2) 79 173 [(2, ((51 : Nat) : Int)), (0, (k : Int)), (0, (bA : Int)), (0, (bB : Int)), (0, ((2 ^ tR T - 1 : Nat) : Int)), (0, ((2 ^ tC T - 1 : Nat) : Int)), (0, (rs : Int)), (0, (cs : Int)), (0, (num T rs cs : Int)), (0, (e : Int)), (0, (x : Int))] [] N mc ms Q := by
            intro x hx
            have x36 := ER_36 hT k hin
            rw [← hx] at x36 step
            have sh : pm_shl 1 (k : Int) = ((2 ^ k : Nat) : Int) := pm_shl_1 (by omega)
            have k2 : 2 ^ k < 2147483648 := Nat.lt_of_le_of_lt (Nat.pow_le_pow_right (by omega) (by omega : k ≤ 20)) (by decide)
            have or1 : pm_or (g : Int) ((2 ^ k : Nat) : Int) = ((g ||| 2 ^ k : Nat) : Int) := pm_or_n (by omega) k2
            have or0 : pm_or (g : Int) 0 = (g : Int) := pm_or_0 (by omega)
            refine g_aload_n lk_79_173 rfl ?_
            refine g_dup lk_79_174 rfl ?_
            refine m_getfield (u := []) (M := N) lk_79_175 rfl (lay.on (by decide) rfl) (v := (g : Int)) hg5 ?_
            refine g_iload lk_79_178 rfl ?_
            refine g_iload lk_79_180 rfl ?_
            refine g_icmp (t := 191) lk_79_182 rfl (by first | (unfold pm_inI; omega) | exact pm_and_in _ _ | exact pm_shr_in _ _ | exact pm_or_in _ _ | exact pm_xor_in _ _ | exact pm_shl_in _ _ | exact pm_cmp_in _ _ | exact pm_b8_in _ | (unfold pm_inI; split <;> omega)) (by first | (unfold pm_inI; omega) | exact pm_and_in _ _ | exact pm_shr_in _ _ | exact pm_or_in _ _ | exact pm_xor_in _ _ | exact pm_shl_in _ _ | exact pm_cmp_in _ _ | exact pm_b8_in _ | (unfold pm_inI; split <;> omega)) (fun h1 => ?_) (fun h1 => ?_)
            · replace h1 : (e : Int) ≤ (x : Int) := h1
              refine g_iconst lk_79_191 ?_
              refine g_ior lk_79_192 ?_
              have lay2 : Lay (Mu [(51, pm_upd (pm_ct N 51) 5 (pm_or (g : Int) 0))] N) := lay.muF (l := []) (a := 51) (k := 5) (z := (pm_or (g : Int) 0)) rfl rfl
              refine m_putfield (u := []) (u' := [(51, pm_upd (pm_ct N 51) 5 (pm_or (g : Int) 0))]) (M := N) lk_79_193 rfl (lay.on (by decide) rfl) (fun h => absurd h (by decide)) rfl ?_
              refine k196 _ x g lay2 (Fr.mu _ _ rfl) (fun j hj => by rw [Mu_ct]; exact upd_ne hj) ?_ hx (Or.inl ⟨rfl, by omega⟩)
              rw [Mu_ct]; exact or0
            · replace h1 : ¬ ((e : Int) ≤ (x : Int)) := h1
              refine g_iconst lk_79_185 ?_
              refine g_iload_n lk_79_186 rfl ?_
              refine g_ishl lk_79_187 ?_
              refine g_top (z := (pm_shl 1 (k : Int))) (z' := ((2 ^ k : Nat) : Int)) (sh) ?_
              refine g_goto (t := 192) lk_79_188 rfl ?_
              refine g_ior lk_79_192 ?_
              have lay3 : Lay (Mu [(51, pm_upd (pm_ct N 51) 5 (pm_or (g : Int) ((2 ^ k : Nat) : Int)))] N) := lay.muF (l := []) (a := 51) (k := 5) (z := (pm_or (g : Int) ((2 ^ k : Nat) : Int))) rfl rfl
              refine m_putfield (u := []) (u' := [(51, pm_upd (pm_ct N 51) 5 (pm_or (g : Int) ((2 ^ k : Nat) : Int)))]) (M := N) lk_79_193 rfl (lay.on (by decide) rfl) (fun h => absurd h (by decide)) rfl ?_
              refine k196 _ x (g ||| 2 ^ k) lay3 (Fr.mu _ _ rfl) (fun j hj => by rw [Mu_ct]; exact upd_ne hj) ?_ hx (Or.inr rfl)
              rw [Mu_ct]; exact or1
          have lk : ∀ a b, inT T a b → bef rs cs a b → ∀ t, t ≤ 9 → t ≤ k → CnAt N cn (num T a b) t (ER T (k - t) a b) := fun a b h q t t1 t2 => by
            obtain ⟨c, x1, x2⟩ := hd a b h q
            exact ⟨c, x1, x2.1, x2.2 t t1 t2⟩
          have spA : tA T ≤ k → pm_E (d + 1) 80 [(2, ((51 : Nat) : Int)), (0, (rs : Int)), (0, (tC T : Int)), (0, (cs : Int)), (0, (tA T : Int))] N 0 0 (fun ρ M' => ρ = some (0, (SA T k rs cs : Int)) ∧ M' = N) := fun h => by
            have := c_Spoilt_splitBack (d := d) (mc := 0) (ms := 0) lay e3 ay r64 (by omega : rs ≠ 0) (sh := tC T) (fx := cs) (k := tA T) ca.2 (ix := fun q => num T q cs) (g := fun q => ER T (k - tA T) q cs) (fun q hq => ⟨num_eq hT (by have := Sb_le hq; omega) hin.2.2.2, Nat.lt_of_lt_of_le (num_lt (by have := Sb_le hq; omega) hin.2.2.2) hn⟩) (fun q _ a b => lk q cs ⟨a, by omega, hin.2.2.1, hin.2.2.2⟩ (Or.inl b) (tA T) ca.2 h)
            have e9 : SA T k rs cs = spl 1 (fun q => ER T (k - tA T) q cs) rs := by unfold SA; rw [if_pos h]
            rw [e9]; exact this
          have sC := shlC hT r64
          obtain ⟨fx, hfx⟩ : ∃ fx, fx = rs * 2 ^ tC T := ⟨_, rfl⟩
          have spB : tB T ≤ k → pm_E (d + 1) 80 [(2, ((51 : Nat) : Int)), (0, (cs : Int)), (0, 0), (0, (fx : Int)), (0, (tB T : Int))] N 0 0 (fun ρ M' => ρ = some (0, (SB T k rs cs : Int)) ∧ M' = N) := fun h => by
            have := c_Spoilt_splitBack (d := d) (mc := 0) (ms := 0) lay e3 ay c64 (by omega : cs ≠ 0) (sh := 0) (fx := rs * 2 ^ tC T) (k := tB T) cb.2 (ix := fun q => num T rs q) (g := fun q => ER T (k - tB T) rs q) (fun q hq => ⟨numB_eq hT r64 (by have := Sb_le hq; omega), Nat.lt_of_lt_of_le (num_lt hin.2.1 (by have := Sb_le hq; omega)) hn⟩) (fun q _ a b => lk rs q ⟨hin.1, hin.2.1, a, by omega⟩ (Or.inr ⟨rfl, b⟩) (tB T) cb.2 h)
            have e9 : SB T k rs cs = spl 1 (fun q => ER T (k - tB T) rs q) cs := by unfold SB; rw [if_pos h]
            rw [e9, hfx]; exact this
          rw [← hfx] at sC
          have sAf : SA T k rs cs ≤ 1000000 := by unfold SA; split; exact spl_far _ _ _; exact Nat.le_refl _
          have sBf : SB T k rs cs ≤ 1000000 := by unfold SB; split; exact spl_far _ _ _; exact Nat.le_refl _
          have nA0 := fun h => noA h rs cs hin
          have nB0 := fun h => noB h rs cs hin
          rw [← he] at nA0 nB0
          have k133 : ∀ x : Nat, x = min e (SA T k rs cs) → Wp (d + 2) 79 133 [(2, ((51 : Nat) : Int)), (0, (k : Int)), (0, (bA : Int)), (0, (bB : Int)), (0, ((2 ^ tR T - 1 : Nat) : Int)), (0, ((2 ^ tC T - 1 : Nat) : Int)), (0, (rs : Int)), (0, (cs : Int)), (0, (num T rs cs : Int)), (0, (e : Int)), (0, (x : Int))] [] N mc ms Q := by
            intro x hx
            refine g_iload lk_79_133 rfl ?_
            refine g_if (t := 173) lk_79_135 rfl (by first | (unfold pm_inI; omega) | exact pm_and_in _ _ | exact pm_shr_in _ _ | exact pm_or_in _ _ | exact pm_xor_in _ _ | exact pm_shl_in _ _ | exact pm_cmp_in _ _ | exact pm_b8_in _ | (unfold pm_inI; split <;> omega)) (fun h1 => ?_) (fun h1 => ?_)
            · replace h1 : (x : Int) ≤ 0 := h1
              refine k173 x ?_
              rw [step]; omega
            · replace h1 : ¬ ((x : Int) ≤ 0) := h1
              refine g_iload_n lk_79_138 rfl ?_
              refine g_if (t := 173) lk_79_139 rfl (by first | (unfold pm_inI; omega) | exact pm_and_in _ _ | exact pm_shr_in _ _ | exact pm_or_in _ _ | exact pm_xor_in _ _ | exact pm_shl_in _ _ | exact pm_cmp_in _ _ | exact pm_b8_in _ | (unfold pm_inI; split <;> omega)) (fun h2 => ?_) (fun h2 => ?_)
              · replace h2 : (bB : Int) = 0 := h2
                refine k173 x ?_
                have := nB0 (by omega)
                rw [step]; omega
              · replace h2 : ¬ ((bB : Int) = 0) := h2
                refine g_iload lk_79_142 rfl ?_
                refine g_aload_n lk_79_144 rfl ?_
                refine g_iload lk_79_145 rfl ?_
                refine g_iconst lk_79_147 ?_
                refine g_iload lk_79_148 rfl ?_
                refine g_aload_n lk_79_150 rfl ?_
                refine g_getfield lk_79_151 rfl (lay.on (by decide) rfl) (v := ((24 : Nat) : Int)) (lay.rf rfl) ?_
                refine m_getfield (u := []) (M := N) lk_79_154 rfl (lay.on (by decide) rfl) (v := (tC T : Int)) hM.2.1 ?_
                refine g_ishl lk_79_157 ?_
                refine g_top (z := (pm_shl (rs : Int) (tC T : Int))) (z' := (fx : Int)) (sC) ?_
                refine g_aload_n lk_79_158 rfl ?_
                refine g_getfield lk_79_159 rfl (lay.on (by decide) rfl) (v := ((24 : Nat) : Int)) (lay.rf rfl) ?_
                refine m_getfield (u := []) (M := N) lk_79_162 rfl (lay.on (by decide) rfl) (v := (tB T : Int)) hM.2.2.2.1 ?_
                refine g_virtual (p := 51) (Qc := _) lk_79_165 rfl (Nat.le_of_ble_eq_true rfl) rfl rfl (lay.on (by decide) rfl) (Nat.le_of_ble_eq_true rfl) (Nat.le_of_ble_eq_true rfl) (Nat.zero_le _) (Nat.zero_le _) (spB (yesB (by omega))) ?_
                rintro _ N3 ⟨rfl, hN3⟩
                rw [hN3]
                show Wp _ 79 168 [(2, ((51 : Nat) : Int)), (0, (k : Int)), (0, (bA : Int)), (0, (bB : Int)), (0, ((2 ^ tR T - 1 : Nat) : Int)), (0, ((2 ^ tC T - 1 : Nat) : Int)), (0, (rs : Int)), (0, (cs : Int)), (0, (num T rs cs : Int)), (0, (e : Int)), (0, (x : Int))] [(0, (SB T k rs cs : Int)), (0, (x : Int))] N _ _ _
                refine g_mmin lk_79_168 (by first | (unfold pm_inI; omega) | exact pm_and_in _ _ | exact pm_shr_in _ _ | exact pm_or_in _ _ | exact pm_xor_in _ _ | exact pm_shl_in _ _ | exact pm_cmp_in _ _ | exact pm_b8_in _ | (unfold pm_inI; split <;> omega)) (by first | (unfold pm_inI; omega) | exact pm_and_in _ _ | exact pm_shr_in _ _ | exact pm_or_in _ _ | exact pm_xor_in _ _ | exact pm_shl_in _ _ | exact pm_cmp_in _ _ | exact pm_b8_in _ | (unfold pm_inI; split <;> omega)) (Nat.le_of_ble_eq_true rfl) ?_
                refine g_istore (ls' := [(2, ((51 : Nat) : Int)), (0, (k : Int)), (0, (bA : Int)), (0, (bB : Int)), (0, ((2 ^ tR T - 1 : Nat) : Int)), (0, ((2 ^ tC T - 1 : Nat) : Int)), (0, (rs : Int)), (0, (cs : Int)), (0, (num T rs cs : Int)), (0, (e : Int)), (0, (min (x : Int) (SB T k rs cs : Int)))]) lk_79_171 rfl rfl ?_
                have e9 : min (x : Int) (SB T k rs cs : Int) = ((min x (SB T k rs cs) : Nat) : Int) := by omega
                rw [e9]
                refine k173 _ ?_
                rw [step]; omega
          refine g_iload lk_79_57 rfl ?_
          refine g_iload lk_79_59 rfl ?_
          refine g_icmp (t := 227) lk_79_61 rfl (by first | (unfold pm_inI; omega) | exact pm_and_in _ _ | exact pm_shr_in _ _ | exact pm_or_in _ _ | exact pm_xor_in _ _ | exact pm_shl_in _ _ | exact pm_cmp_in _ _ | exact pm_b8_in _ | (unfold pm_inI; split <;> omega)) (by first | (unfold pm_inI; omega) | exact pm_and_in _ _ | exact pm_shr_in _ _ | exact pm_or_in _ _ | exact pm_xor_in _ _ | exact pm_shl_in _ _ | exact pm_cmp_in _ _ | exact pm_b8_in _ | (unfold pm_inI; split <;> omega)) (fun h1 => ?_) (fun h1 => ?_)
          · replace h1 : ((2 ^ tC T - 1 : Nat) : Int) < (cs : Int) := h1
            refine g_iinc (ls' := [(2, ((51 : Nat) : Int)), (0, (k : Int)), (0, (bA : Int)), (0, (bB : Int)), (0, ((2 ^ tR T - 1 : Nat) : Int)), (0, ((2 ^ tC T - 1 : Nat) : Int)), (0, ((rs : Int) + 1)), (0, (cs : Int)), v8, v9, v10]) lk_79_227 rfl rfl rfl ?_
            refine g_goto (t := 47) lk_79_230 rfl ?_
            omega
          · replace h1 : ¬ (((2 ^ tC T - 1 : Nat) : Int) < (cs : Int)) := h1
            refine g_aload_n lk_79_64 rfl ?_
            refine g_getfield lk_79_65 rfl (lay.on (by decide) rfl) (v := ((44 : Nat) : Int)) (lay.rf rfl) ?_
            refine g_iload lk_79_68 rfl ?_
            refine g_iload lk_79_70 rfl ?_
            refine g_virtual (p := 44) (Qc := _) lk_79_72 rfl (Nat.le_of_ble_eq_true rfl) rfl rfl (lay.on (by decide) rfl) (Nat.le_of_ble_eq_true rfl) (Nat.le_of_ble_eq_true rfl) (Nat.zero_le _) (Nat.zero_le _) (c_Areas_numberOf lay hT hM (by omega) (by omega)) ?_
            rintro _ N2 ⟨rfl, hN2⟩
            rw [hN2]
            show Wp _ 79 75 [(2, ((51 : Nat) : Int)), (0, (k : Int)), (0, (bA : Int)), (0, (bB : Int)), (0, ((2 ^ tR T - 1 : Nat) : Int)), (0, ((2 ^ tC T - 1 : Nat) : Int)), (0, (rs : Int)), (0, (cs : Int)), v8, v9, v10] [(0, (num T rs cs : Int))] N _ _ _
            refine g_istore (ls' := [(2, ((51 : Nat) : Int)), (0, (k : Int)), (0, (bA : Int)), (0, (bB : Int)), (0, ((2 ^ tR T - 1 : Nat) : Int)), (0, ((2 ^ tC T - 1 : Nat) : Int)), (0, (rs : Int)), (0, (cs : Int)), (0, (num T rs cs : Int)), v9, v10]) lk_79_75 rfl rfl ?_
            refine g_aload_n lk_79_77 rfl ?_
            refine m_getfield (u := []) (M := N) lk_79_78 rfl (lay.on (by decide) rfl) (v := ((cn : Nat) : Int)) e3 ?_
            refine g_iload lk_79_81 rfl ?_
            refine g_laload lk_79_83 ay (by omega) (v := (c : Int)) rd ?_
            refine g_ldc2_w lk_79_84 ?_
            refine g_land lk_79_87 ?_
            refine g_top (z := (pm_andL (c : Int) 63)) (z' := (e : Int)) (and63) ?_
            refine g_l2i lk_79_88 ?_
            refine g_istore (ls' := [(2, ((51 : Nat) : Int)), (0, (k : Int)), (0, (bA : Int)), (0, (bB : Int)), (0, ((2 ^ tR T - 1 : Nat) : Int)), (0, ((2 ^ tC T - 1 : Nat) : Int)), (0, (rs : Int)), (0, (cs : Int)), (0, (num T rs cs : Int)), (0, (e : Int)), v10]) lk_79_89 rfl rfl ?_
            refine g_iload lk_79_91 rfl ?_
            refine g_istore (ls' := [(2, ((51 : Nat) : Int)), (0, (k : Int)), (0, (bA : Int)), (0, (bB : Int)), (0, ((2 ^ tR T - 1 : Nat) : Int)), (0, ((2 ^ tC T - 1 : Nat) : Int)), (0, (rs : Int)), (0, (cs : Int)), (0, (num T rs cs : Int)), (0, (e : Int)), (0, (e : Int))]) lk_79_93 rfl rfl ?_
            refine g_iload lk_79_95 rfl ?_
            refine g_if (t := 133) lk_79_97 rfl (by first | (unfold pm_inI; omega) | exact pm_and_in _ _ | exact pm_shr_in _ _ | exact pm_or_in _ _ | exact pm_xor_in _ _ | exact pm_shl_in _ _ | exact pm_cmp_in _ _ | exact pm_b8_in _ | (unfold pm_inI; split <;> omega)) (fun h3 => ?_) (fun h3 => ?_)
            · replace h3 : (e : Int) ≤ 0 := h3
              refine k133 e ?_
              omega
            · replace h3 : ¬ ((e : Int) ≤ 0) := h3
              refine g_iload_n lk_79_100 rfl ?_
              refine g_if (t := 133) lk_79_101 rfl (by first | (unfold pm_inI; omega) | exact pm_and_in _ _ | exact pm_shr_in _ _ | exact pm_or_in _ _ | exact pm_xor_in _ _ | exact pm_shl_in _ _ | exact pm_cmp_in _ _ | exact pm_b8_in _ | (unfold pm_inI; split <;> omega)) (fun h4 => ?_) (fun h4 => ?_)
              · replace h4 : (bA : Int) = 0 := h4
                refine k133 e ?_
                have := nA0 (by omega)
                omega
              · replace h4 : ¬ ((bA : Int) = 0) := h4
                refine g_iload lk_79_104 rfl ?_
                refine g_aload_n lk_79_106 rfl ?_
                refine g_iload lk_79_107 rfl ?_
                refine g_aload_n lk_79_109 rfl ?_
                refine g_getfield lk_79_110 rfl (lay.on (by decide) rfl) (v := ((24 : Nat) : Int)) (lay.rf rfl) ?_
                refine m_getfield (u := []) (M := N) lk_79_113 rfl (lay.on (by decide) rfl) (v := (tC T : Int)) hM.2.1 ?_
                refine g_iload lk_79_116 rfl ?_
                refine g_aload_n lk_79_118 rfl ?_
                refine g_getfield lk_79_119 rfl (lay.on (by decide) rfl) (v := ((24 : Nat) : Int)) (lay.rf rfl) ?_
                refine m_getfield (u := []) (M := N) lk_79_122 rfl (lay.on (by decide) rfl) (v := (tA T : Int)) hM.2.2.1 ?_
                refine g_virtual (p := 51) (Qc := _) lk_79_125 rfl (Nat.le_of_ble_eq_true rfl) rfl rfl (lay.on (by decide) rfl) (Nat.le_of_ble_eq_true rfl) (Nat.le_of_ble_eq_true rfl) (Nat.zero_le _) (Nat.zero_le _) (spA (yesA (by omega))) ?_
                rintro _ N5 ⟨rfl, hN5⟩
                rw [hN5]
                show Wp _ 79 128 [(2, ((51 : Nat) : Int)), (0, (k : Int)), (0, (bA : Int)), (0, (bB : Int)), (0, ((2 ^ tR T - 1 : Nat) : Int)), (0, ((2 ^ tC T - 1 : Nat) : Int)), (0, (rs : Int)), (0, (cs : Int)), (0, (num T rs cs : Int)), (0, (e : Int)), (0, (e : Int))] [(0, (SA T k rs cs : Int)), (0, (e : Int))] N _ _ _
                refine g_mmin lk_79_128 (by first | (unfold pm_inI; omega) | exact pm_and_in _ _ | exact pm_shr_in _ _ | exact pm_or_in _ _ | exact pm_xor_in _ _ | exact pm_shl_in _ _ | exact pm_cmp_in _ _ | exact pm_b8_in _ | (unfold pm_inI; split <;> omega)) (by first | (unfold pm_inI; omega) | exact pm_and_in _ _ | exact pm_shr_in _ _ | exact pm_or_in _ _ | exact pm_xor_in _ _ | exact pm_shl_in _ _ | exact pm_cmp_in _ _ | exact pm_b8_in _ | (unfold pm_inI; split <;> omega)) (Nat.le_of_ble_eq_true rfl) ?_
                refine g_istore (ls' := [(2, ((51 : Nat) : Int)), (0, (k : Int)), (0, (bA : Int)), (0, (bB : Int)), (0, ((2 ^ tR T - 1 : Nat) : Int)), (0, ((2 ^ tC T - 1 : Nat) : Int)), (0, (rs : Int)), (0, (cs : Int)), (0, (num T rs cs : Int)), (0, (e : Int)), (0, (min (e : Int) (SA T k rs cs : Int)))]) lk_79_131 rfl rfl ?_
                have e9 : min (e : Int) (SA T k rs cs : Int) = ((min e (SA T k rs cs) : Nat) : Int) := by omega
                rw [e9]
                exact k133 _ rfl
      rw [← hrs]
      have lay : Lay N := by rw [hSt] at hst; exact hst.1
      rw [← hrs] at hst
      refine g_iload lk_79_47 rfl ?_
      refine g_iload lk_79_49 rfl ?_
      refine g_icmp (t := 233) lk_79_51 rfl (by first | (unfold pm_inI; omega) | exact pm_and_in _ _ | exact pm_shr_in _ _ | exact pm_or_in _ _ | exact pm_xor_in _ _ | exact pm_shl_in _ _ | exact pm_cmp_in _ _ | exact pm_b8_in _ | (unfold pm_inI; split <;> omega)) (by first | (unfold pm_inI; omega) | exact pm_and_in _ _ | exact pm_shr_in _ _ | exact pm_or_in _ _ | exact pm_xor_in _ _ | exact pm_shl_in _ _ | exact pm_cmp_in _ _ | exact pm_b8_in _ | (unfold pm_inI; split <;> omega)) (fun h1 => ?_) (fun h1 => ?_)
      · replace h1 : ((2 ^ tR T - 1 : Nat) : Int) < (rs : Int) := h1
        refine g_return lk_79_233 ?_
        omega
      · replace h1 : ¬ (((2 ^ tR T - 1 : Nat) : Int) < (rs : Int)) := h1
        refine g_iconst lk_79_54 ?_
        refine g_istore (ls' := [(2, ((51 : Nat) : Int)), (0, (k : Int)), (0, (bA : Int)), (0, (bB : Int)), (0, ((2 ^ tR T - 1 : Nat) : Int)), (0, ((2 ^ tC T - 1 : Nat) : Int)), (0, (rs : Int)), (0, 1), v8, v9, v10]) lk_79_55 rfl rfl ?_
        exact inner (2 ^ tC T - 1) 0 g _ _ _ N (by omega) hst
  have hM := hM0
  have no : ∀ a b, inT T a b → ¬ bef (0 + 1) 1 a b := fun a b h q => by have := h.1; have := h.2.2.1; unfold bef at q; omega
  have mA := c_Spoilt_mayHelp (d := d + 1) (mc := 0) (ms := 0) lay0 hf5 f31 (k := k) (c := tA T) (by omega) ca.2
  have mB := c_Spoilt_mayHelp (d := d + 1) (mc := 0) (ms := 0) lay0 hf5 f31 (k := k) (c := tB T) (by omega) cb.2
  have zA : (if tA T ≤ k ∧ f.testBit (k - tA T) = true then (1 : Int) else 0) = (bA : Int) := by rw [hbA]; split <;> rfl
  have zB : (if tB T ≤ k ∧ f.testBit (k - tB T) = true then (1 : Int) else 0) = (bB : Int) := by rw [hbB]; split <;> rfl
  rw [zA] at mA
  rw [zB] at mB
  rw [← hk]
  show Wp (d + 2) 79 0 [(2, ((51 : Nat) : Int)), (0, (k : Int)), (9, 0), (9, 0), (9, 0), (9, 0), (9, 0), (9, 0), (9, 0), (9, 0), (9, 0)] [] M mc ms Q
  refine g_aload_n lk_79_0 rfl ?_
  refine g_iload_n lk_79_1 rfl ?_
  refine g_aload_n lk_79_2 rfl ?_
  refine g_getfield lk_79_3 rfl (lay0.on (by decide) rfl) (v := ((24 : Nat) : Int)) (lay0.rf rfl) ?_
  refine m_getfield (u := []) (M := M) lk_79_6 rfl (lay0.on (by decide) rfl) (v := (tA T : Int)) hM.2.2.1 ?_
  refine g_virtual (p := 51) (Qc := _) lk_79_9 rfl (Nat.le_of_ble_eq_true rfl) rfl rfl (lay0.on (by decide) rfl) (Nat.le_of_ble_eq_true rfl) (Nat.le_of_ble_eq_true rfl) (Nat.zero_le _) (Nat.zero_le _) (mA) ?_
  rintro _ N1 ⟨rfl, hN1⟩
  rw [hN1]
  show Wp _ 79 12 [(2, ((51 : Nat) : Int)), (0, (k : Int)), (9, 0), (9, 0), (9, 0), (9, 0), (9, 0), (9, 0), (9, 0), (9, 0), (9, 0)] [(0, (bA : Int))] M _ _ _
  refine g_istore_n (ls' := [(2, ((51 : Nat) : Int)), (0, (k : Int)), (0, (bA : Int)), (9, 0), (9, 0), (9, 0), (9, 0), (9, 0), (9, 0), (9, 0), (9, 0)]) lk_79_12 rfl rfl ?_
  refine g_aload_n lk_79_13 rfl ?_
  refine g_iload_n lk_79_14 rfl ?_
  refine g_aload_n lk_79_15 rfl ?_
  refine g_getfield lk_79_16 rfl (lay0.on (by decide) rfl) (v := ((24 : Nat) : Int)) (lay0.rf rfl) ?_
  refine m_getfield (u := []) (M := M) lk_79_19 rfl (lay0.on (by decide) rfl) (v := (tB T : Int)) hM.2.2.2.1 ?_
  refine g_virtual (p := 51) (Qc := _) lk_79_22 rfl (Nat.le_of_ble_eq_true rfl) rfl rfl (lay0.on (by decide) rfl) (Nat.le_of_ble_eq_true rfl) (Nat.le_of_ble_eq_true rfl) (Nat.zero_le _) (Nat.zero_le _) (mB) ?_
  rintro _ N2 ⟨rfl, hN2⟩
  rw [hN2]
  show Wp _ 79 25 [(2, ((51 : Nat) : Int)), (0, (k : Int)), (0, (bA : Int)), (9, 0), (9, 0), (9, 0), (9, 0), (9, 0), (9, 0), (9, 0), (9, 0)] [(0, (bB : Int))] M _ _ _
  refine g_istore_n (ls' := [(2, ((51 : Nat) : Int)), (0, (k : Int)), (0, (bA : Int)), (0, (bB : Int)), (9, 0), (9, 0), (9, 0), (9, 0), (9, 0), (9, 0), (9, 0)]) lk_79_25 rfl rfl ?_
  refine g_aload_n lk_79_26 rfl ?_
  refine g_getfield lk_79_27 rfl (lay0.on (by decide) rfl) (v := ((24 : Nat) : Int)) (lay0.rf rfl) ?_
  refine g_virtual (p := 24) (Qc := _) lk_79_30 rfl (Nat.le_of_ble_eq_true rfl) rfl rfl (lay0.on (by decide) rfl) (Nat.le_of_ble_eq_true rfl) (Nat.le_of_ble_eq_true rfl) (Nat.zero_le _) (Nat.zero_le _) (c_Table_allRows lay0 ht hT hM) ?_
  rintro _ N3 ⟨rfl, hN3⟩
  rw [hN3]
  show Wp _ 79 33 [(2, ((51 : Nat) : Int)), (0, (k : Int)), (0, (bA : Int)), (0, (bB : Int)), (9, 0), (9, 0), (9, 0), (9, 0), (9, 0), (9, 0), (9, 0)] [(0, ((2 ^ tR T - 1 : Nat) : Int))] M _ _ _
  refine g_istore (ls' := [(2, ((51 : Nat) : Int)), (0, (k : Int)), (0, (bA : Int)), (0, (bB : Int)), (0, ((2 ^ tR T - 1 : Nat) : Int)), (9, 0), (9, 0), (9, 0), (9, 0), (9, 0), (9, 0)]) lk_79_33 rfl rfl ?_
  refine g_aload_n lk_79_35 rfl ?_
  refine g_getfield lk_79_36 rfl (lay0.on (by decide) rfl) (v := ((24 : Nat) : Int)) (lay0.rf rfl) ?_
  refine g_virtual (p := 24) (Qc := _) lk_79_39 rfl (Nat.le_of_ble_eq_true rfl) rfl rfl (lay0.on (by decide) rfl) (Nat.le_of_ble_eq_true rfl) (Nat.le_of_ble_eq_true rfl) (Nat.zero_le _) (Nat.zero_le _) (c_Table_allColumns lay0 ht hT hM) ?_
  rintro _ N4 ⟨rfl, hN4⟩
  rw [hN4]
  show Wp _ 79 42 [(2, ((51 : Nat) : Int)), (0, (k : Int)), (0, (bA : Int)), (0, (bB : Int)), (0, ((2 ^ tR T - 1 : Nat) : Int)), (9, 0), (9, 0), (9, 0), (9, 0), (9, 0), (9, 0)] [(0, ((2 ^ tC T - 1 : Nat) : Int))] M _ _ _
  refine g_istore (ls' := [(2, ((51 : Nat) : Int)), (0, (k : Int)), (0, (bA : Int)), (0, (bB : Int)), (0, ((2 ^ tR T - 1 : Nat) : Int)), (0, ((2 ^ tC T - 1 : Nat) : Int)), (9, 0), (9, 0), (9, 0), (9, 0), (9, 0)]) lk_79_42 rfl rfl ?_
  refine g_iconst lk_79_44 ?_
  refine g_istore (ls' := [(2, ((51 : Nat) : Int)), (0, (k : Int)), (0, (bA : Int)), (0, (bB : Int)), (0, ((2 ^ tR T - 1 : Nat) : Int)), (0, ((2 ^ tC T - 1 : Nat) : Int)), (0, 1), (9, 0), (9, 0), (9, 0), (9, 0)]) lk_79_45 rfl rfl ?_
  refine rows (2 ^ tR T - 1) 0 f _ _ _ _ M (by omega) ?_
  rw [hSt]
  exact ⟨lay0, Fr.refl _ _, fun _ _ => rfl, hf5, Or.inl rfl, fun _ a b h q => absurd q (no a b h), fun a b h q => absurd q (no a b h), fun a b h _ => hlv a b h⟩
