section SND2
variable {md : pm_Md} {code : Nat → List pm_I} {pl : Nat → Nat × Nat × Nat × Nat} {l : Launch} {D : va_G} {dA : Nat → ClassId} {b B L : Nat} {xs : Nat → Int32}
set_option maxHeartbeats 4000000 in
set_option maxRecDepth 100000 in
theorem pm_sound (hok : ∀ y, y < 268 → (code y).all (pm_okI md y) = true) (hom : ∀ y, y < 267 → pm_okm md y (pl y) = true) (hcl : pm_words) (hL0 : L < 2147483648) :
    ∀ Y : pm_K, (∀ d y pc ls st M cb sb Q, Y d y pc ls st M cb sb Q → pm_X md l D dA b B L xs d y pc ls st M cb sb Q) → ∀ d y pc ls st M cb sb Q, pm_step md pm_ft pm_nf code Y d y pc ls st M cb sb Q → pm_X md l D dA b B L xs d y pc ls st M cb sb Q := by
  intro Y hY d y pc ls st M cb sb Q hstep
  intro p e R s m args below meth c Z mT sT hy hx hb hml hown hnm hts hK hX hbB hBs hfr hlo hmT hsT hend H locs cells slots lv hR hS hL hc1 hc2
  obtain ⟨I, hI, hex⟩ := hstep
  obtain ⟨hmem, hpc⟩ := pm_look_mem hI
  have hok1 := List.all_eq_true.mp (hok y hy) I hmem
  obtain ⟨pc0, ins, len, e1, e2, e3, e4⟩ := I
  replace hpc : pc0 = pc := hpc
  subst hpc
  unfold pm_okI at hok1
  rw [Bool.and_eq_true] at hok1
  obtain ⟨hd0, hl0⟩ := hok1
  have hdec := of_decide_eq_true hd0
  replace hdec : decode (md y).2.1 pc0 = .ok (ins, if pm_lx ins = 0 then len else pm_lx ins) := hdec
  replace hl0 : pm_okl md (md y).1.cls (md y).1.name (md y).2.2.2.1 pc0 e1 e2 e3 e4 ins = true := hl0
  replace hex : pm_ex md pm_ft pm_nf Y d y pc0 ls st M cb sb Q e1 e2 e3 ins := hex
  have hbA : ¬ pm_A B b := Nat.not_lt.mpr hbB
  have hbl : b < s.heap.size := Nat.lt_of_le_of_lt hbB hBs
  have hAll : ∀ q, s.heap.size ≤ q → pm_A B q := fun q h => Nat.lt_of_lt_of_le hBs h
  have go : ∀ {pc' : Nat} {ls' st' : List pm_V} {M' : pm_M} {cb' sb' : Nat}, Y d y pc' ls' st' M' cb' sb' Q → ∀ {H' : Heap} {locs' : List Loc} {cells' slots' : Nat} {lv' : Array Slot}, pm_R D dA b B L xs M' H' → va_S (pm_A B) s.heap H' locs' → pm_L b B ls' lv' (md y).2.2.1 → cells' + cb' ≤ mT → slots' + sb' ≤ sT →
      W p l e R s m args below meth c H' locs' cells' slots' Z (F0 m pc' lv' (st'.map (pm_vl b B))) := by
    intro pc' ls' st' M' cb' sb' h H' locs' cells' slots' lv' k1 k2 k3 k4 k5
    exact hY _ _ _ _ _ _ _ _ _ h p e R s m args below meth c Z mT sT hy hx hb hml hown hnm hts hK hX hbB hBs hfr hlo hmT hsT hend H' locs' cells' slots' lv' k1 k2 k3 k4 k5
  have gs : ∀ {pc' : Nat} {st' : List pm_V}, Y d y pc' ls st' M cb sb Q → W p l e R s m args below meth c H locs cells slots Z (F0 m pc' lv (st'.map (pm_vl b B))) := fun h => go h hR hS hL hc1 hc2
  have hln : ls.length = (md y).2.2.1 := hL.2.2.1
  have hs1 : ∀ {i : Nat}, pm_s1 ls i = true → i < (md y).2.2.1 := by
    intro i h
    unfold pm_s1 at h
    rw [Bool.and_eq_true] at h
    rw [← hln]; exact of_decide_eq_true h.1
  have hs2 : ∀ {i : Nat}, pm_s2 ls i = true → i + 1 < (md y).2.2.1 := by
    intro i h
    unfold pm_s2 at h
    rw [Bool.and_eq_true] at h
    rw [← hln]; exact of_decide_eq_true h.1
  have mk : ∀ {y' : Nat}, y' < 267 → (∀ w ∈ pm_ws md y', ∀ (a' : Array Value) (U : State), s.WarmedH U.vm → w.before a' U = true) ∧ Cond.code (md y').1 (md y').2.1 (md y').2.2.1 (md y').2.2.2.1 ∈ lw_tbl ∧ Cond.initialized (md y').1.cls ∈ lw_tbl ∧ ((md y').1.cls ≠ "java/lang/invoke/MethodHandle" ∧ (md y').1.cls ≠ "java/lang/invoke/VarHandle") ∧ (∀ sig, parseMethodDescriptor (md y').1.desc = some sig → (md y').2.2.2.2.1 = sig.parameters.length) ∧ (md y').2.2.1 ≤ 40 ∧ ((md y').2.2.2.2.2 = 99 → Cond.static (md y').1 ∈ lw_tbl) ∧ ((md y').2.2.2.2.2 ≠ 99 → Cond.instanceMethod (md y').1 ∈ lw_tbl ∧ ((md y').1.name ≠ "<init>" → Cond.selects (md y').1.cls (md y').1 (md y').1 ∈ lw_tbl ∧ (md y').2.2.2.2.2 < 13 ∧ (pm_CC (md y').2.2.2.2.2).1 = (md y').1.cls)) := by
    intro y' hy'
    have hm := hom y' hy'
    unfold pm_okm at hm
    rw [Bool.and_eq_true, Bool.and_eq_true, Bool.and_eq_true] at hm
    obtain ⟨m1, m2, m3, m4⟩ := hm
    obtain ⟨n1, n2, n3, n4, n5⟩ := of_decide_eq_true m3
    refine ⟨?_, pm_wd.mem m1, pm_wd.mem m2, ⟨n1, n2⟩, fun sig h => ?_, n5, fun h9 => ?_, fun h9 => ?_⟩
    · refine pay_in hts (fun w hw => ?_)
      rcases List.mem_cons.mp hw with rfl | hw
      · exact ⟨pm_us (pm_wd.mem m1) rfl, Or.inl rfl⟩
      · have hm := List.mem_filter.mp hw
        exact ⟨pm_us hm.1 (by unfold pm_ug; rw [hm.2, Bool.true_or]), good_of_word hm.2⟩
    · rw [h] at n3
      exact (Option.some.inj n3).symm
    · rw [if_pos h9] at m4
      exact pm_wd.mem m4
    · rw [if_neg h9, Bool.and_eq_true] at m4
      refine ⟨pm_wd.mem m4.1, fun hn => ?_⟩
      rcases Bool.or_eq_true_iff.mp m4.2 with h | h
      · exact absurd (of_decide_eq_true h) hn
      · rw [Bool.and_eq_true] at h
        exact ⟨pm_wd.mem h.1, of_decide_eq_true h.2⟩
  have pcAt : ∀ (as : List pm_V) (U : State), U.heap = H → s.WarmedH U.vm → pm_Pc D dA b B L xs as M (as.map (pm_vl b B)).toArray U := by
    intro as U hU hW
    refine ⟨rfl, by rw [hU]; exact hR, va_K.moved hW.alike hK, ?_, by rw [hU]; exact Nat.lt_of_lt_of_le hBs hS.1, (pm_Bd.of hts).warm hW⟩
    rw [hU]
    exact (hX.kept (hS.2.1 b hbl hbA)).moved hW.alike
  cases ins
  case iconst n => exact lv_iconst hx hb hdec rfl (gs hex)
  case bipush n =>
    have h := of_decide_eq_true (show decide (-128 ≤ n ∧ n ≤ 127) = true from hl0)
    exact lv_bipush hx hb hdec (Int8.toInt32_ofInt h.1 h.2) (gs hex)
  case sipush n =>
    have h := of_decide_eq_true (show decide (-32768 ≤ n ∧ n ≤ 32767) = true from hl0)
    exact lv_sipush hx hb hdec (Int16.toInt32_ofInt h.1 h.2) (gs hex)
  case ldc k => exact lv_ldc hx hb hown (hts _ (pm_us (pm_wd.mem hl0) rfl)) hdec (gs hex)
  case ldc_w k => exact lv_ldcw hx hb hown (hts _ (pm_us (pm_wd.mem hl0) rfl)) hdec (gs hex)
  case ldc2_w k => exact lv_ldc2 hx hb hown (hts _ (pm_us (pm_wd.mem hl0) rfl)) hdec (gs hex)
  case lconst n =>
    have h : Int64.ofNat (n : Nat) = Int64.ofInt ((n : Nat) : Int) := by
      match n with
      | 0 => rfl
      | 1 => rfl
    exact lv_lconst hx hb hdec h (gs hex)
  case iload k =>
    obtain ⟨z, hz, hk⟩ := pm_ld_inv (t := 0) (ls := ls) (i := k) (k := fun z => Y d y (pc0 + 2) ls ((0, z) :: st) M cb sb Q) hex
    exact lv_iload hx hb hdec (hL.get hz (by decide)) (gs hk)
  case iload_n k =>
    obtain ⟨z, hz, hk⟩ := pm_ld_inv (t := 0) (ls := ls) (i := k) (k := fun z => Y d y (pc0 + 1) ls ((0, z) :: st) M cb sb Q) hex
    exact lv_iload_n hx hb hdec rfl (hL.get hz (by decide)) (gs hk)
  case lload k =>
    obtain ⟨z, hz, hk⟩ := pm_ld_inv (t := 1) (ls := ls) (i := k) (k := fun z => Y d y (pc0 + 2) ls ((1, z) :: st) M cb sb Q) hex
    exact lv_lload hx hb hdec (hL.get hz (by decide)) (gs hk)
  case lload_n k =>
    obtain ⟨z, hz, hk⟩ := pm_ld_inv (t := 1) (ls := ls) (i := k) (k := fun z => Y d y (pc0 + 1) ls ((1, z) :: st) M cb sb Q) hex
    exact lv_lload_n hx hb hdec rfl (hL.get hz (by decide)) (gs hk)
  case aload k =>
    obtain ⟨z, hz, h0, hk⟩ := pm_ld_inv (t := 2) (ls := ls) (i := k) (k := fun z => 0 ≤ z ∧ Y d y (pc0 + 2) ls ((2, z) :: st) M cb sb Q) hex
    have hg := hL.get hz (by decide)
    have h2 := gs hk
    rw [List.map_cons, pm_vl_r0 h0] at h2
    rw [pm_vl_r0 h0] at hg
    exact lv_aload hx hb hdec hg h2
  case aload_n k =>
    obtain ⟨z, hz, h0, hk⟩ := pm_ld_inv (t := 2) (ls := ls) (i := k) (k := fun z => 0 ≤ z ∧ Y d y (pc0 + 1) ls ((2, z) :: st) M cb sb Q) hex
    have hg := hL.get hz (by decide)
    have h2 := gs hk
    rw [List.map_cons, pm_vl_r0 h0] at h2
    rw [pm_vl_r0 h0] at hg
    exact lv_aload_n hx hb hdec rfl hg h2
  case istore k =>
    obtain ⟨z, r, rfl, hs, hk⟩ := pm_i1_inv hex
    exact lv_istore hx hb hdec hL.has (hs1 hs) rfl (fun lv' h' => go hk hR hS (hL.set1 (v := (0, z)) hs h') hc1 hc2)
  case istore_n k =>
    obtain ⟨z, r, rfl, hs, hk⟩ := pm_i1_inv hex
    exact lv_istore_n hx hb hdec rfl hL.has (hs1 hs) rfl (fun lv' h' => go hk hR hS (hL.set1 (v := (0, z)) hs h') hc1 hc2)
  case lstore k =>
    obtain ⟨z, r, rfl, hs, hk⟩ := pm_l1_inv hex
    exact lv_lstore hx hb hdec hL.has (hs2 hs) rfl (fun lv' h' => go hk hR hS (hL.set2 (v := (1, z)) hs h') hc1 hc2)
  case lstore_n k =>
    obtain ⟨z, r, rfl, hs, hk⟩ := pm_l1_inv hex
    exact lv_lstore_n hx hb hdec rfl hL.has (hs2 hs) rfl (fun lv' h' => go hk hR hS (hL.set2 (v := (1, z)) hs h') hc1 hc2)
  case astore k =>
    obtain ⟨z, r, rfl, h0, hs, hk⟩ := pm_r1_inv hex
    rw [List.map_cons, pm_vl_r0 h0]
    exact lv_astore hx hb hdec hL.has (hs1 hs) rfl (fun lv' h' => go hk hR hS (hL.set1 (v := (2, z)) hs (by rw [pm_vl_r0 h0]; exact h')) hc1 hc2)
  case astore_n k =>
    obtain ⟨z, r, rfl, h0, hs, hk⟩ := pm_r1_inv hex
    rw [List.map_cons, pm_vl_r0 h0]
    exact lv_astore_n hx hb hdec rfl hL.has (hs1 hs) rfl (fun lv' h' => go hk hR hS (hL.set1 (v := (2, z)) hs (by rw [pm_vl_r0 h0]; exact h')) hc1 hc2)
  case iinc k n =>
    obtain ⟨z, hz, hs, hk⟩ := pm_ld_inv (t := 0) (ls := ls) (i := k) (k := fun z => pm_s1 ls k = true ∧ Y d y (pc0 + 3) (ls.set k (0, z + n)) st M cb sb Q) hex
    have hh : lv_has lv (md y).2.2.1 ((k, .int (Int32.ofInt z)) :: pm_lvs b B ls) := by
      refine ⟨hL.1, hL.2.1, fun q hq => ?_⟩
      rcases List.mem_cons.mp hq with rfl | hq
      · exact hL.get hz (by decide)
      · exact hL.has.2.2 q hq
    refine lv_iinc (k := 0) (v := Int32.ofInt (z + n)) hx hb hdec hh rfl (by rw [Int32.ofInt_add]) (hs1 hs) rfl (fun lv' h' => go hk hR hS (hL.set1 (v := (0, z + n)) hs ?_) hc1 hc2)
    rw [List.filter_cons_of_neg (by simp)] at h'
    exact h'
  case iadd =>
    obtain ⟨a, b', r, rfl, hk⟩ := pm_i2_inv hex
    exact lv_iadd hx hb hdec (by rw [← Int32.ofInt_add]; exact gs hk)
  case isub =>
    obtain ⟨a, b', r, rfl, hk⟩ := pm_i2_inv hex
    exact lv_isub hx hb hdec (by rw [← Int32.ofInt_sub]; exact gs hk)
  case imul =>
    obtain ⟨a, b', r, rfl, hk⟩ := pm_i2_inv hex
    exact lv_imul hx hb hdec (by rw [← Int32.ofInt_mul]; exact gs hk)
  case ineg =>
    obtain ⟨a, r, rfl, hk⟩ := pm_i1_inv hex
    exact lv_ineg hx hb hdec (by rw [← Int32.ofInt_neg]; exact gs hk)
  case idiv =>
    obtain ⟨a, b', r, rfl, h3, hk⟩ := pm_i2_inv hex
    refine lv_idiv hx hb hdec (fun h => h3 (by have := (pm_wI_eq b' 0).mp h; rwa [pm_wI_0] at this)) ?_
    rw [← pm_of_wI a, ← pm_of_wI b', ← Int32.ofInt_tdiv (pm_wI_in a).1 (pm_wI_in a).2 (pm_wI_in b').1 (pm_wI_in b').2]; exact gs hk
  case irem =>
    obtain ⟨a, b', r, rfl, h3, hk⟩ := pm_i2_inv hex
    refine lv_irem hx hb hdec (fun h => h3 (by have := (pm_wI_eq b' 0).mp h; rwa [pm_wI_0] at this)) ?_
    rw [← pm_of_wI a, ← pm_of_wI b', ← Int32.ofInt_tdiv (pm_wI_in a).1 (pm_wI_in a).2 (pm_wI_in b').1 (pm_wI_in b').2, ← Int32.ofInt_mul, ← Int32.ofInt_sub, show pm_wI a - (pm_wI a).tdiv (pm_wI b') * (pm_wI b') = (pm_wI a).tmod (pm_wI b') by rw [Int.tmod_def, Int.mul_comm]]
    exact gs hk
  case iand =>
    obtain ⟨a, b', r, rfl, hk⟩ := pm_i2_inv hex
    refine lv_iand hx hb hdec ?_
    rw [← Int32.ofInt_toInt (Int32.ofInt a &&& Int32.ofInt b')]; exact gs hk
  case ior =>
    obtain ⟨a, b', r, rfl, hk⟩ := pm_i2_inv hex
    refine lv_ior hx hb hdec ?_
    rw [← Int32.ofInt_toInt (Int32.ofInt a ||| Int32.ofInt b')]; exact gs hk
  case ixor =>
    obtain ⟨a, b', r, rfl, hk⟩ := pm_i2_inv hex
    refine lv_ixor hx hb hdec ?_
    rw [← Int32.ofInt_toInt (Int32.ofInt a ^^^ Int32.ofInt b')]; exact gs hk
  case ishl =>
    obtain ⟨a, b', r, rfl, hk⟩ := pm_i2_inv hex
    refine lv_ishl hx hb hdec ?_
    rw [← Int32.ofInt_toInt (Int32.ofInt a <<< (Int32.ofInt b' &&& 31))]; exact gs hk
  case ishr =>
    obtain ⟨a, b', r, rfl, hk⟩ := pm_i2_inv hex
    refine lv_ishr hx hb hdec ?_
    rw [← Int32.ofInt_toInt (Int32.ofInt a >>> (Int32.ofInt b' &&& 31))]; exact gs hk
  case iushr =>
    obtain ⟨a, b', r, rfl, hk⟩ := pm_i2_inv hex
    exact lv_iushr hx hb hdec (Int32.ofInt_toInt _).symm (gs hk)
  case ladd =>
    obtain ⟨a, b', r, rfl, hk⟩ := pm_l2_inv hex
    exact lv_ladd hx hb hdec (by rw [← Int64.ofInt_add]; exact gs hk)
  case lsub =>
    obtain ⟨a, b', r, rfl, hk⟩ := pm_l2_inv hex
    exact lv_lsub hx hb hdec (by rw [← Int64.ofInt_sub]; exact gs hk)
  case lmul =>
    obtain ⟨a, b', r, rfl, hk⟩ := pm_l2_inv hex
    exact lv_lmul hx hb hdec (by rw [← Int64.ofInt_mul]; exact gs hk)
  case lneg =>
    obtain ⟨a, r, rfl, hk⟩ := pm_l1_inv hex
    exact lv_lneg hx hb hdec (by rw [← Int64.ofInt_neg]; exact gs hk)
  case ldiv =>
    obtain ⟨a, b', r, rfl, h3, hk⟩ := pm_l2_inv hex
    refine lv_ldiv hx hb hdec (fun h => h3 ((pm_wL_eq b' 0).mp h)) ?_
    rw [← pm_of_wL a, ← pm_of_wL b', ← Int64.ofInt_tdiv (pm_wL_in a).1 (pm_wL_in a).2 (pm_wL_in b').1 (pm_wL_in b').2]; exact gs hk
  case lrem =>
    obtain ⟨a, b', r, rfl, h3, hk⟩ := pm_l2_inv hex
    refine lv_lrem hx hb hdec (fun h => h3 ((pm_wL_eq b' 0).mp h)) ?_
    rw [← pm_of_wL a, ← pm_of_wL b', ← Int64.ofInt_tdiv (pm_wL_in a).1 (pm_wL_in a).2 (pm_wL_in b').1 (pm_wL_in b').2, ← Int64.ofInt_mul, ← Int64.ofInt_sub, show pm_wL a - (pm_wL a).tdiv (pm_wL b') * (pm_wL b') = (pm_wL a).tmod (pm_wL b') by rw [Int.tmod_def, Int.mul_comm]]
    exact gs hk
  case land =>
    obtain ⟨a, b', r, rfl, hk⟩ := pm_l2_inv hex
    refine lv_land hx hb hdec ?_
    rw [← Int64.ofInt_toInt (Int64.ofInt a &&& Int64.ofInt b')]; exact gs hk
  case lor =>
    obtain ⟨a, b', r, rfl, hk⟩ := pm_l2_inv hex
    refine lv_lor hx hb hdec ?_
    rw [← Int64.ofInt_toInt (Int64.ofInt a ||| Int64.ofInt b')]; exact gs hk
  case lxor =>
    obtain ⟨a, b', r, rfl, hk⟩ := pm_l2_inv hex
    refine lv_lxor hx hb hdec ?_
    rw [← Int64.ofInt_toInt (Int64.ofInt a ^^^ Int64.ofInt b')]; exact gs hk
  case lshl =>
    obtain ⟨a, b', r, rfl, hk⟩ := pm_li_inv hex
    exact lv_lshl hx hb hdec (Int64.ofInt_toInt _).symm (gs hk)
  case lshr =>
    obtain ⟨a, b', r, rfl, hk⟩ := pm_li_inv hex
    exact lv_lshr hx hb hdec (Int64.ofInt_toInt _).symm (gs hk)
  case lushr =>
    obtain ⟨a, b', r, rfl, hk⟩ := pm_li_inv hex
    exact lv_lushr hx hb hdec (Int64.ofInt_toInt _).symm (gs hk)
  case lcmp =>
    obtain ⟨a, b', r, rfl, hk⟩ := pm_l2_inv hex
    refine W.lcmp hx hb hdec ?_
    have he : lg_cmp (Int64.ofInt a) (Int64.ofInt b') = Int32.ofInt (pm_cmp (pm_wL a) (pm_wL b')) := by
      unfold lg_cmp pm_cmp
      have q1 : (Int64.ofInt a > Int64.ofInt b') ↔ pm_wL b' < pm_wL a := pm_wL_lt b' a
      have q2 := pm_wL_eq a b'
      by_cases c1 : pm_wL b' < pm_wL a
      · rw [if_pos (q1.mpr c1), if_pos c1]; rfl
      · rw [if_neg (fun h => c1 (q1.mp h)), if_neg c1]
        by_cases c2 : pm_wL a = pm_wL b'
        · rw [if_pos (q2.mpr c2), if_pos c2]; rfl
        · rw [if_neg (fun h => c2 (q2.mp h)), if_neg c2]; rfl
    rw [he]; exact gs hk
  case i2l =>
    obtain ⟨a, r, rfl, hk⟩ := pm_i1_inv hex
    refine lv_i2l hx hb hdec ?_ (gs hk)
    rw [← pm_of_wI a]
    exact Int32.toInt64_ofInt (pm_wI_in a).1 (pm_wI_in a).2
  case l2i =>
    obtain ⟨a, r, rfl, hk⟩ := pm_l1_inv hex
    exact lv_l2i hx hb hdec Int64.toInt32_ofInt (gs hk)
  case i2b =>
    obtain ⟨a, r, rfl, hk⟩ := pm_i1_inv hex
    exact lv_i2b hx hb hdec (Int32.ofInt_toInt _).symm (gs hk)
  case ifCond cn off =>
    obtain ⟨a, r, rfl, k1, k2⟩ := pm_i1_inv hex
    have ht : (pc0 : Int) + off = ((((pc0 : Int) + off).toNat : Nat) : Int) := (Int.toNat_of_nonneg (of_decide_eq_true (show decide (0 ≤ (pc0 : Int) + off) = true from hl0))).symm
    have w0 := pm_wI_0
    have qe : Int32.ofInt a = 0 ↔ pm_wI a = 0 := by have := pm_wI_eq a 0; rwa [w0] at this
    have ql : Int32.ofInt a < 0 ↔ pm_wI a < 0 := by have := pm_wI_lt a 0; rwa [w0] at this
    have qg : 0 < Int32.ofInt a ↔ 0 < pm_wI a := by have := pm_wI_lt 0 a; rwa [w0] at this
    have qle : Int32.ofInt a ≤ 0 ↔ pm_wI a ≤ 0 := by have := pm_wI_le a 0; rwa [w0] at this
    have qge : 0 ≤ Int32.ofInt a ↔ 0 ≤ pm_wI a := by have := pm_wI_le 0 a; rwa [w0] at this
    cases cn
    case eq => exact lv_if_eq hx hb hdec ht (fun h => gs (k1 (qe.mp h))) (fun h => gs (k2 fun q => h (qe.mpr q)))
    case ne => exact lv_if_ne hx hb hdec ht (fun h => gs (k1 fun q => h (qe.mpr q))) (fun h => gs (k2 fun q => q (qe.mp h)))
    case lt => exact lv_if_lt hx hb hdec ht (fun h => gs (k1 (ql.mp h))) (fun h => gs (k2 fun q => h (ql.mpr q)))
    case ge => exact lv_if_ge hx hb hdec ht (fun h => gs (k1 (qge.mp h))) (fun h => gs (k2 fun q => h (qge.mpr q)))
    case gt => exact lv_if_gt hx hb hdec ht (fun h => gs (k1 (qg.mp h))) (fun h => gs (k2 fun q => h (qg.mpr q)))
    case le => exact lv_if_le hx hb hdec ht (fun h => gs (k1 (qle.mp h))) (fun h => gs (k2 fun q => h (qle.mpr q)))
  case if_icmp cn off =>
    obtain ⟨a, b', r, rfl, k1, k2⟩ := pm_i2_inv hex
    have ht : (pc0 : Int) + off = ((((pc0 : Int) + off).toNat : Nat) : Int) := (Int.toNat_of_nonneg (of_decide_eq_true (show decide (0 ≤ (pc0 : Int) + off) = true from hl0))).symm
    cases cn
    case eq => exact lv_icmp_eq hx hb hdec ht (fun h => gs (k1 ((pm_wI_eq a b').mp h))) (fun h => gs (k2 fun q => h ((pm_wI_eq a b').mpr q)))
    case ne => exact lv_icmp_ne hx hb hdec ht (fun h => gs (k1 fun q => h ((pm_wI_eq a b').mpr q))) (fun h => gs (k2 fun q => q ((pm_wI_eq a b').mp h)))
    case lt => exact lv_icmp_lt hx hb hdec ht (fun h => gs (k1 ((pm_wI_lt a b').mp h))) (fun h => gs (k2 fun q => h ((pm_wI_lt a b').mpr q)))
    case ge => exact lv_icmp_ge hx hb hdec ht (fun h => gs (k1 ((pm_wI_le b' a).mp h))) (fun h => gs (k2 fun q => h ((pm_wI_le b' a).mpr q)))
    case gt => exact lv_icmp_gt hx hb hdec ht (fun h => gs (k1 ((pm_wI_lt b' a).mp h))) (fun h => gs (k2 fun q => h ((pm_wI_lt b' a).mpr q)))
    case le => exact lv_icmp_le hx hb hdec ht (fun h => gs (k1 ((pm_wI_le a b').mp h))) (fun h => gs (k2 fun q => h ((pm_wI_le a b').mpr q)))
  case goto off =>
    have ht : (pc0 : Int) + off = ((((pc0 : Int) + off).toNat : Nat) : Int) := (Int.toNat_of_nonneg (of_decide_eq_true (show decide (0 ≤ (pc0 : Int) + off) = true from hl0))).symm
    exact lv_goto hx hb hdec ht (gs hex)
  case tableswitch dflt lo hi offs =>
    obtain ⟨a0, r, rfl, hk⟩ := pm_i1_inv hex
    obtain ⟨a, ha⟩ : ∃ a, a = pm_wI a0 := ⟨_, rfl⟩
    rw [← ha] at hk
    have hl1 : (decide (0 ≤ (pc0 : Int) + dflt) && (offs.toList.all (fun o => decide (0 ≤ (pc0 : Int) + o)) && decide (hi = lo + offs.toList.length - 1))) = true := hl0
    simp only [Bool.and_eq_true, decide_eq_true_eq] at hl1
    obtain ⟨g1, g2, g3⟩ := hl1
    have hta : (Int32.ofInt a0).toInt = a := ha.symm
    have hh := pm_tb_in _ _ hk
    by_cases ho : a < lo ∨ hi < a
    · refine lv_tableOut hx hb hdec (by rw [hta]; exact ho) (Int.toNat_of_nonneg g1).symm (gs (hh.2 ?_))
      rcases ho with ho | ho
      · exact Or.inl ho
      · right; omega
    · have hj : (a - lo).toNat < offs.toList.length := by omega
      have hjo : offs.toList[(a - lo).toNat]? = some (offs.toList[(a - lo).toNat]) := List.getElem?_eq_getElem hj
      refine lv_tableIn hx hb hdec (by rw [hta]; omega) (by rw [hta]; omega) (by rw [hta, ← Array.getElem?_toList]; exact hjo) (Int.toNat_of_nonneg ?_).symm (gs (hh.1 _ _ hjo (by omega)))
      exact of_decide_eq_true (List.all_eq_true.mp g2 _ (List.mem_of_getElem? hjo))
  case lookupswitch dflt ps =>
    obtain ⟨a0, r, rfl, hk⟩ := pm_i1_inv hex
    obtain ⟨a, ha⟩ : ∃ a, a = pm_wI a0 := ⟨_, rfl⟩
    rw [← ha] at hk
    have hl1 : (decide (0 ≤ (pc0 : Int) + dflt) && (ps.toList.all (fun o => decide (0 ≤ (pc0 : Int) + o.2)) && (ps.toList.zip (ps.toList.drop 1)).all (fun (a, next) => a.1 < next.1))) = true := hl0
    rw [Bool.and_eq_true, Bool.and_eq_true] at hl1
    obtain ⟨g1, g2, g3⟩ := hl1
    have hta : (Int32.ofInt a0).toInt = a := ha.symm
    have hnn : ∀ os : List (Int × Int), os.all (fun o => decide (0 ≤ (pc0 : Int) + o.2)) = true → 0 ≤ (pc0 : Int) + Op.lookupswitch.offset os dflt a := by
      intro os
      induction os with
      | nil => intro _; exact of_decide_eq_true g1
      | cons q os ih =>
        intro h
        rw [List.all_cons, Bool.and_eq_true] at h
        obtain ⟨u, o⟩ := q
        rw [Op.lookupswitch.offset_cons]
        split
        · exact of_decide_eq_true h.1
        · exact ih h.2
    exact lv_lookup hx hb hdec g3 (by rw [hta]) (Int.toNat_of_nonneg (hnn _ g2)).symm (gs (pm_lk_at _ hk))
  case dup =>
    match st, hex with
    | v :: r, hex => exact lv_dup hx hb hdec (by rw [pm_cat_eq]; exact hex.1) (gs hex.2)
  case pop =>
    match st, hex with
    | v :: r, hex => exact lv_pop hx hb hdec (by rw [pm_cat_eq]; exact hex.1) (gs hex.2)
  case dup2 =>
    match st, hex with
    | v :: w :: r, hex => exact lv_dup2_11 hx hb hdec (by rw [pm_cat_eq]; exact hex.1) (by rw [pm_cat_eq]; exact hex.2.1) (gs hex.2.2)
  case getfield k =>
    obtain ⟨a, r, rfl, ho, hk⟩ := pm_r1_inv hex
    have hl1 : (decide (e1 < 13 ∧ e2 < pm_nf e1 ∧ e3.toNat = pm_tg (pm_ft e1 e2)) && pm_wd e4 (.fieldLink (md y).1.cls k ((pm_CC e1).2.1 e2).1 ((pm_CC e1).2.1 e2).2.1 ((pm_CC e1).2.1 e2).2.2.1)) = true := hl0
    rw [Bool.and_eq_true] at hl1
    obtain ⟨g1, g2, g3⟩ := of_decide_eq_true hl1.1
    rw [g3] at hk
    rw [List.map_cons, pm_vl_r ho.1]
    exact pm_getf hx hb hown hts hK hR g1 g2 ho (pm_wd.mem hl1.2) hdec (gs hk)
  case putfield k =>
    obtain ⟨a, z, r, rfl, ho, hz, hk⟩ := pm_rv_inv hex
    have hl1 : (decide (e1 < 13 ∧ e2 < pm_nf e1 ∧ e3.toNat = pm_tg (pm_ft e1 e2) ∧ pm_tyo (pm_ft e1 e2) = true) && (pm_wd e4 (.fieldLink (md y).1.cls k ((pm_CC e1).2.1 e2).1 ((pm_CC e1).2.1 e2).2.1 ((pm_CC e1).2.1 e2).2.2.1) && (!((pm_CC e1).2.1 e2).2.2.2 || decide ((md y).1.name = "<init>" ∧ ((pm_CC e1).2.1 e2).1 = (md y).1.cls)))) = true := hl0
    rw [Bool.and_eq_true, Bool.and_eq_true] at hl1
    obtain ⟨g1, g2, g3, g4⟩ := of_decide_eq_true hl1.1
    rw [List.map_cons, List.map_cons, pm_vl_r ho.1, g3]
    refine pm_putf hx hb hown hts hK hR hS g1 g2 ho (pm_wd.mem hl1.2.1) ?_ g4 hz hdec (fun H1 locs1 k1 k2 => go hk k1 k2 hL hc1 hc2)
    rcases Bool.or_eq_true_iff.mp hl1.2.2 with h | h
    · left; simpa using h
    · right
      have h := of_decide_eq_true h
      exact ⟨hnm h.1, h.2⟩
  case iaload =>
    obtain ⟨a, i, r, rfl, ⟨h0, h1, h2, h3, h4⟩, hk⟩ := pm_ri_inv hex
    have hlt := hR.2.2.2.2.1 a.toNat h1
    have hcl1 := pm_clamp h3 (show i < 2147483648 by omega)
    by_cases ha : a = 0
    · subst ha
      have h00 : M.2 0 = (100, L, fun j => (xs j).toInt) := hR.2.2.2.1
      have hLn : pm_ln M 0 = L := by unfold pm_ln; rw [h00]
      have hct : pm_ct M 0 = fun j => (xs j).toInt := by unfold pm_ct; rw [h00]
      have h4' : i.toNat < L := by rw [← hLn]; exact h4
      refine va_sld hx hb hX hbl hbA hS (pm_vpin h3 h4' hL0) hdec ?_
      have h5 := gs hk
      rw [List.map_cons] at h5
      have h6 : pm_vl b B (0, pm_ct M (0 : Int).toNat i.toNat) = .int (xs (Int32.ofInt i).toNatClampNeg) := by
        show Value.int (Int32.ofInt (pm_ct M 0 i.toNat)) = _
        rw [hct, hcl1, Int32.ofInt_toInt]
      rw [h6] at h5
      exact h5
    · have ha0 : 0 < a := by omega
      rw [List.map_cons, List.map_cons, pm_vl_r ha0]
      refine va_iald hx hb hK (hR.ar (Nat.le_refl 100) (by omega) h1 h2) 0 0 rfl rfl (pm_vpin h3 h4 hlt) hdec ?_
      have h5 := gs hk
      rw [hcl1]
      exact h5
  case laload =>
    obtain ⟨a, i, r, rfl, ha0, ⟨h0, h1, h2, h3, h4⟩, hk⟩ := pm_ri_inv hex
    have hlt := hR.2.2.2.2.1 a.toNat h1
    have hcl1 := pm_clamp h3 (show i < 2147483648 by omega)
    rw [List.map_cons, List.map_cons, pm_vl_r ha0]
    refine va_lald hx hb hK (hR.ar (c := 101) (by omega) (by omega) h1 h2) 0 1 rfl rfl (pm_vpin h3 h4 hlt) hdec ?_
    have h5 := gs hk
    rw [hcl1]
    exact h5
  case baload =>
    obtain ⟨a, i, r, rfl, ha0, ⟨h0, h1, h2, h3, h4⟩, hk⟩ := pm_ri_inv hex
    have hlt := hR.2.2.2.2.1 a.toNat h1
    have hcl1 := pm_clamp h3 (show i < 2147483648 by omega)
    rw [List.map_cons, List.map_cons, pm_vl_r ha0]
    refine va_bald hx hb hK (hR.ar (c := 102) (by omega) (by omega) h1 h2) 0 2 rfl rfl (pm_vpin h3 h4 hlt) hdec ?_
    have h5 := gs hk
    rw [hcl1]
    exact h5
  case aaload =>
    obtain ⟨a, i, r, rfl, ha0, k, hk1, hk2, ⟨h0, h1, h2, h3, h4⟩, hk⟩ := pm_ri_inv hex
    have hlt := hR.2.2.2.2.1 a.toNat h1
    have hcl1 := pm_clamp h3 (show i < 2147483648 by omega)
    obtain ⟨t0, ht0⟩ := pm_K_elem (dA := dA) hk1 hk2
    rw [List.map_cons, List.map_cons, pm_vl_r ha0]
    have hP := hR.ar (c := k) (by omega) (by omega) h1 h2
    rw [pm_ar_q hk1] at hP
    refine va_aldq hx hb hK hP 0 t0 rfl ht0 (pm_vpin h3 h4 hlt) hdec ?_
    have h5 := gs hk
    rw [hcl1]
    exact h5
  case iastore =>
    obtain ⟨a, i, z, r, rfl, ha0, ⟨h0, h1, h2, h3, h4⟩, hk⟩ := pm_rit_inv hex
    have hlt := hR.2.2.2.2.1 a.toNat h1
    have hcl1 := pm_clamp h3 (show i < 2147483648 by omega)
    rw [List.map_cons, List.map_cons, List.map_cons, pm_vl_r ha0]
    have hP := hR.ar (c := 100) (by omega) (by omega) h1 h2
    refine W.iast (x := Int32.ofInt z) hx hb (hP 0 _ rfl) ((hK.2 0 _ rfl).1 _ (fun j => .int (Int32.ofInt (pm_ct M a.toNat j)))) (fun q => by cases q) (by show ¬ (_ ∨ (arrV _ _ _).slots.size ≤ _); rw [arrV_size]; exact pm_vpin h3 h4 hlt) rfl rfl hdec (fun H1 q1 q2 q3 => ?_)
    rw [hcl1] at q1 ⊢
    obtain ⟨k1, k2⟩ := pm_stored hR hS ha0 h1 (by omega) h2 q1 pm_cell_i q2 q3
    exact go hk k1 k2 hL hc1 hc2
  case lastore =>
    obtain ⟨a, i, z, r, rfl, ha0, ⟨h0, h1, h2, h3, h4⟩, hk⟩ := pm_rit_inv hex
    have hlt := hR.2.2.2.2.1 a.toNat h1
    have hcl1 := pm_clamp h3 (show i < 2147483648 by omega)
    rw [List.map_cons, List.map_cons, List.map_cons, pm_vl_r ha0]
    have hP := hR.ar (c := 101) (by omega) (by omega) h1 h2
    refine W.last (x := Int64.ofInt z) hx hb (hP 0 _ rfl) ((hK.2 1 _ rfl).1 _ (fun j => .long (Int64.ofInt (pm_ct M a.toNat j)))) (fun q => by cases q) (by show ¬ (_ ∨ (arrV _ _ _).slots.size ≤ _); rw [arrV_size]; exact pm_vpin h3 h4 hlt) rfl rfl hdec (fun H1 q1 q2 q3 => ?_)
    rw [hcl1] at q1 ⊢
    obtain ⟨k1, k2⟩ := pm_stored hR hS ha0 h1 (by omega) h2 q1 pm_cell_l q2 q3
    exact go hk k1 k2 hL hc1 hc2
  case bastore =>
    obtain ⟨a, i, z, r, rfl, ha0, ⟨h0, h1, h2, h3, h4⟩, hk⟩ := pm_rit_inv hex
    have hlt := hR.2.2.2.2.1 a.toNat h1
    have hcl1 := pm_clamp h3 (show i < 2147483648 by omega)
    rw [List.map_cons, List.map_cons, List.map_cons, pm_vl_r ha0]
    have hP := hR.ar (c := 102) (by omega) (by omega) h1 h2
    refine W.bast (x := Int32.ofInt z) hx hb (hP 0 _ rfl) ((hK.2 2 _ rfl).1 _ (fun j => .int (Int32.ofInt (pm_ct M a.toNat j)))) (fun q => by cases q) (by show ¬ (_ ∨ (arrV _ _ _).slots.size ≤ _); rw [arrV_size]; exact pm_vpin h3 h4 hlt) rfl rfl hdec (fun H1 q1 q2 q3 => ?_)
    rw [hcl1] at q1 ⊢
    obtain ⟨k1, k2⟩ := pm_stored hR hS ha0 h1 (by omega) h2 q1 pm_cell_b q2 q3
    exact go hk k1 k2 hL hc1 hc2
  case arraylength =>
    obtain ⟨a, r, rfl, h0, h1, h2, h3, hk⟩ := pm_r1_inv hex
    by_cases ha : a = 0
    · subst ha
      have h00 : M.2 0 = (100, L, fun j => (xs j).toInt) := hR.2.2.2.1
      have hLn : pm_ln M 0 = L := by unfold pm_ln; rw [h00]
      refine va_slen hx hb hX hbl hbA hS hdec ?_
      have h5 := gs hk
      rw [List.map_cons] at h5
      have h6 : pm_vl b B (0, (pm_ln M (0 : Int).toNat : Int)) = .int (Int32.ofNat L) := by
        show Value.int (Int32.ofInt (pm_ln M 0 : Int)) = _
        rw [hLn, Int32.ofInt_eq_ofNat]
      rw [h6] at h5
      exact h5
    · have ha0 : 0 < a := by omega
      rw [List.map_cons, pm_vl_r ha0]
      obtain ⟨ty, hty⟩ := pm_tys_at (dA := dA) (pm_kd M a.toNat - 100) (c := pm_kd M a.toNat) (by omega) (by omega)
      refine va_alen (v := Int32.ofInt (pm_ln M a.toNat : Int)) hx hb hK (hR.ar h2 (by omega) h1 rfl) 0 _ rfl hty (Int32.ofInt_eq_ofNat).symm hdec ?_
      exact gs hk
  case aastore =>
    obtain ⟨a, i, z, r, rfl, ha0, cz, hor, hz, hk⟩ := pm_rit_inv hex
    obtain ⟨k, hk1, hk2, hix, hcz, hel⟩ : ∃ k, 103 ≤ k ∧ k ≤ 105 ∧ pm_ix M a i k ∧ cz < 13 ∧ (pm_CC cz).1 = pm_el k := by
      rcases hor with ⟨h, rfl⟩ | ⟨h, rfl⟩ | ⟨h, rfl⟩
      · exact ⟨103, by omega, by omega, h, by omega, rfl⟩
      · exact ⟨104, by omega, by omega, h, by omega, rfl⟩
      · exact ⟨105, by omega, by omega, h, by omega, rfl⟩
    obtain ⟨h0, h1, h2, h3, h4⟩ := hix
    have hlt := hR.2.2.2.2.1 a.toNat h1
    have hcl1 := pm_clamp h3 (show i < 2147483648 by omega)
    obtain ⟨t0, ht0⟩ := pm_K_elem (dA := dA) hk1 hk2
    rw [List.map_cons, List.map_cons, List.map_cons, pm_vl_r ha0, pm_vl_r hz.1]
    have hP := hR.ar (c := k) (by omega) (by omega) h1 h2
    obtain ⟨r', hr', cellV, g1, g2, g3, -⟩ := hR.ob (c := cz) (by omega) hz 0 _ rfl
    have hcc := pm_CC_at hcz
    have hcls := (hK.1 cz _ hcc).2
    obtain ⟨kA, comp, k1, k2, k3, -⟩ := (hK.2 t0 _ ht0).2
    have hcomp : comp = D.1 cz := by
      have := hcls.1
      rw [hel] at this
      exact Option.some.inj (k3.symm.trans this)
    subst hcomp
    obtain ⟨kC, hkC, -⟩ := hcls.2
    have hsz : (vp_cell (dA k) (pm_ln M a.toNat, pm_ar b B k (pm_ct M a.toNat))).slots.size = pm_ln M a.toNat := by
      rw [pm_ar_q hk1]; show (arrV _ _ _).slots.size = _; rw [arrV_size]
    have hvm : (vp_cell (dA k) (pm_ln M a.toNat, pm_ar b B k (pm_ct M a.toNat))).vm = .none := by rw [pm_ar_q hk1]; rfl
    have hcA : (vp_cell (dA k) (pm_ln M a.toNat, pm_ar b B k (pm_ct M a.toNat))).cls = dA k := by rw [pm_ar_q hk1]; rfl
    have hvi := pm_vpin h3 h4 hlt
    refine W.aast (v := B + z.toNat) hx hb (hP 0 _ rfl) (fun q h => by rw [hvm] at h; cases h) (fun h => by rw [hvm] at h; cases h) (by rw [hcA]; exact k1) k2 rfl hkC ⟨fun h => hvi (Or.inl h), by rw [hsz, hcl1]; exact h4⟩ g1 (fun q h => by rw [g3] at h; cases h) (by rw [g2]; exact hkC) (by rw [g2]; exact va_assign hcls) rfl rfl hdec (fun H1 q1 q2 q3 => ?_)
    rw [hcl1] at q1 ⊢
    obtain ⟨s1, s2⟩ := pm_stored hR hS ha0 h1 (by omega) h2 q1 (pm_cell_q hk1 hz.1) q2 q3
    exact go hk s1 s2 hL hc1 hc2
  case newarray t =>
    obtain ⟨n, r, rfl, h0, h1, h2, h3, hk⟩ := pm_i1_inv hex
    have hl1 := of_decide_eq_true (show decide (t = .int ∧ e1 = 100 ∨ t = .long ∧ e1 = 101 ∨ t = .byte ∧ e1 = 102) = true from hl0)
    have hcl1 := pm_clamp h0 (show n < 2147483648 by omega)
    have hn0 : ¬ Int32.ofInt n < 0 := by
      intro h
      have h' : Int32.ofInt n < Int32.ofInt 0 := h
      rw [pm_ofI_lt ⟨by omega, by omega⟩ pm_in0] at h'
      omega
    have hM1 : (M.1 : Int).toNat = M.1 := by omega
    have hpush : ∀ (H' : Heap), H'[H.size]? = some (vp_cell (dA e1) (n.toNat, pm_ar b B e1 (fun _ => 0))) → H'.size = H.size + 1 → (∀ q, q < H.size → H'[q]? = H[q]?) → ¬ e1 < 100 → W p l e R s m args below meth c H' locs (cells + 1) (slots + n.toNat) Z (F0 m (pc0 + 2) lv (.ref H.size :: r.map (pm_vl b B))) := by
      intro H' q1 q2 q3 q4
      have hR' : pm_R D dA b B L xs (pm_new M (e1, n.toNat, fun _ => 0)) H' := hR.push _ (show n.toNat < 2147483648 by omega) q2 q3 (by
        unfold pm_nt
        rw [if_neg q4]
        exact q1)
      have hS' : va_S (pm_A B) s.heap H' locs := ⟨Nat.le_trans hS.1 (by omega), fun q g1 g2 => by rw [q3 q (Nat.lt_of_lt_of_le g1 hS.1)]; exact hS.2.1 q g1 g2, hS.2.2⟩
      have h5 := go hk hR' hS' hL (cells' := cells + 1) (slots' := slots + n.toNat) (by omega) (by omega)
      rw [List.map_cons, pm_vl_r (by have := hR.2.1; omega), hM1, ← hR.1] at h5
      exact h5
    rcases hl1 with ⟨rfl, rfl⟩ | ⟨rfl, rfl⟩ | ⟨rfl, rfl⟩
    · refine va_newaK (atype := .int) hx hb (hts _ (pm_us hcl.1.1 rfl)) rfl hdec rfl hn0 hcl1 (by show n.toNat * 4 ≤ 536870912; omega) (by omega) (by omega) rfl (fun H' cA q1 q2 q3 q4 q5 => ?_)
      have hcA : cA = dA 100 := Option.some.inj (q5.symm.trans (hK.2 0 _ rfl).2)
      subst hcA
      exact hpush H' q1 q2 q3 (by omega)
    · refine va_newaK (atype := .long) hx hb (hts _ (pm_us hcl.1.2.1 rfl)) rfl hdec rfl hn0 hcl1 (by show n.toNat * 8 ≤ 536870912; omega) (by omega) (by omega) rfl (fun H' cA q1 q2 q3 q4 q5 => ?_)
      have hcA : cA = dA 101 := Option.some.inj (q5.symm.trans (hK.2 1 _ rfl).2)
      subst hcA
      exact hpush H' q1 q2 q3 (by omega)
    · refine va_newaK (atype := .byte) hx hb (hts _ (pm_us hcl.1.2.2 rfl)) rfl hdec rfl hn0 hcl1 (by show n.toNat * 1 ≤ 536870912; omega) (by omega) (by omega) rfl (fun H' cA q1 q2 q3 q4 q5 => ?_)
      have hcA : cA = dA 102 := Option.some.inj (q5.symm.trans (hK.2 2 _ rfl).2)
      subst hcA
      exact hpush H' q1 q2 q3 (by omega)
  case anewarray k =>
    obtain ⟨n, r, rfl, h0, h1, h2, h3, hk⟩ := pm_i1_inv hex
    have hl1 : (decide (103 ≤ e1 ∧ e1 ≤ 105) && pm_wd e4 (.classLink (md y).1.cls k (pm_el e1))) = true := hl0
    rw [Bool.and_eq_true] at hl1
    obtain ⟨g1, g2⟩ := of_decide_eq_true hl1.1
    have hcl1 := pm_clamp h0 (show n < 2147483648 by omega)
    have hn0 : ¬ Int32.ofInt n < 0 := by
      intro h
      have h' : Int32.ofInt n < Int32.ofInt 0 := h
      rw [pm_ofI_lt ⟨by omega, by omega⟩ pm_in0] at h'
      omega
    have hM1 : (M.1 : Int).toNat = M.1 := by omega
    obtain ⟨t0, ht0⟩ := pm_K_elem (dA := dA) g1 g2
    refine W.anew hx hb hown (hts _ (pm_us (pm_wd.mem hl1.2) rfl)) (hts _ (pm_us (hcl.2.1 e1 g1 g2) rfl)) rfl hdec rfl hn0 (by rw [hcl1]; omega) (by omega) (by rw [hcl1]; omega) (fun cA kA comp f1 f2 f3 f4 => ?_)
    rw [hcl1]
    generalize hH1 : H.push ({ cls := cA, slots := Array.replicate n.toNat .null, vm := .none } : Cell) = H1
    have z1 : H1.size = H.size + 1 := by rw [← hH1, Array.size_push]
    have e1' : H1[H.size]? = some (arrV cA n.toNat (fun _ => .null)) := by rw [← hH1, Array.getElem?_push_size, ← arrV_new]
    have o1 : ∀ q : Nat, q < H.size → H1[q]? = H[q]? := fun q hq => by rw [← hH1, Array.getElem?_push, if_neg (Nat.ne_of_lt hq)]
    obtain ⟨kA', comp', j1, j2, j3, j4⟩ := (hK.2 t0 _ ht0).2
    have hcA : cA = dA e1 := Option.some.inj (f1.symm.trans j4)
    subst hcA
    have hR' : pm_R D dA b B L xs (pm_new M (e1, n.toNat, fun _ => -1)) H1 := hR.push _ (show n.toNat < 2147483648 by omega) z1 o1 (by
      unfold pm_nt
      rw [if_neg (show ¬ e1 < 100 by omega)]
      show H1[H.size]? = some (vp_cell (dA e1) (n.toNat, pm_ar b B e1 (fun _ => -1)))
      rw [pm_ar_q g1]
      exact e1')
    have hS' : va_S (pm_A B) s.heap H1 locs := ⟨Nat.le_trans hS.1 (by omega), fun q g1 g2 => by rw [o1 q (Nat.lt_of_lt_of_le g1 hS.1)]; exact hS.2.1 q g1 g2, hS.2.2⟩
    have h5 := go hk hR' hS' hL (cells' := cells + 1) (slots' := slots + n.toNat) (by omega) (by omega)
    rw [List.map_cons, pm_vl_r (by have := hR.2.1; omega), hM1, ← hR.1] at h5
    exact h5
  case new k =>
    obtain ⟨h2, h3, hk⟩ := hex
    have hl1 : (decide (e1 < 13) && pm_wd e4 (.classLink (md y).1.cls k (pm_CC e1).1)) = true := hl0
    rw [Bool.and_eq_true] at hl1
    have g1 := of_decide_eq_true hl1.1
    obtain ⟨w1, w2, w3⟩ := hcl.2.2.1 e1 g1
    have hc := pm_CC_at g1
    have hKn := hK.1 e1 _ hc
    have hM1 : (M.1 : Int).toNat = M.1 := by omega
    refine W.newcK hx hb hown (hts _ (pm_us (pm_wd.mem hl1.2) rfl)) (hts _ (pm_us w1 rfl)) (hts _ (pm_us w2 rfl)) rfl hdec (by omega) (show slots + pm_nf e1 ≤ R.slots by omega) hKn.2.1 rfl (fun H1 kC hkC q1 q2 q3 => ?_)
    have hR' : pm_R D dA b B L xs (pm_new M (e1, 0, fun k => pm_df (pm_ft e1 k))) H1 := hR.push _ (show 0 < 2147483648 by omega) q2 q3 (by
      unfold pm_nt
      rw [if_pos (show e1 < 100 by omega)]
      exact ⟨_, hc, (u_born (pm_ft e1) hts (pm_clsU g1) hKn hkC q1 (pm_cls g1).2.1).to (fun j hj => by rw [pm_fs_V hj]; exact pm_dfv (w3 j hj))⟩)
    have hS' : va_S (pm_A B) s.heap H1 locs := ⟨Nat.le_trans hS.1 (by omega), fun q g1 g2 => by rw [q3 q (Nat.lt_of_lt_of_le g1 hS.1)]; exact hS.2.1 q g1 g2, hS.2.2⟩
    have h5 := go hk hR' hS' hL (cells' := cells + 1) (slots' := slots + pm_nf e1) (by omega) (by omega)
    rw [List.map_cons, pm_vl_r (by have := hR.2.1; omega), hM1, ← hR.1] at h5
    exact h5
  case ireturn =>
    match st, hex with
    | [(0, z)], hex =>
      have hl1 := of_decide_eq_true (show decide ((md y).2.2.2.1 = some .int ∧ e1 = 0 ∨ (md y).2.2.2.1 = some .boolean ∧ e1 = 1) = true from hl0)
      refine hend (some (0, z)) M hex.2 H locs cells slots pc0 lv _ hR hS (by omega) (by omega) hdec ?_
      rcases hl1 with ⟨q1, q2⟩ | ⟨q1, q2⟩
      · exact Or.inl ⟨q1, rfl, z, rfl⟩
      · exact Or.inr (Or.inl ⟨q1, rfl, z, hex.1 q2, rfl⟩)
  case lreturn =>
    match st, hex with
    | [(1, z)], hex =>
      have hl1 := of_decide_eq_true (show decide ((md y).2.2.2.1 = some .long) = true from hl0)
      exact hend (some (1, z)) M hex H locs cells slots pc0 lv _ hR hS (by omega) (by omega) hdec (Or.inr (Or.inr (Or.inl ⟨hl1, rfl, z, rfl⟩)))
  case areturn =>
    match st, hex with
    | [(2, z)], hex =>
      refine hend (some (2, z)) M hex.2 H locs cells slots pc0 lv _ hR hS (by omega) (by omega) hdec (Or.inr (Or.inr (Or.inr (Or.inl ⟨?_, rfl, z, hex.1, rfl⟩))))
      have hl1 : (match (md y).2.2.2.1 with | some (.object _) => true | _ => false) = true := hl0
      split at hl1
      · rename_i n hn
        exact ⟨n, hn⟩
      · cases hl1
  case return_ =>
    match st, hex with
    | [], hex =>
      have hl1 := of_decide_eq_true (show decide ((md y).2.2.2.1 = none) = true from hl0)
      exact hend none M hex H locs cells slots pc0 lv _ hR hS (by omega) (by omega) hdec (Or.inr (Or.inr (Or.inr (Or.inr ⟨hl1, rfl, rfl⟩))))
  case invokestatic k =>
    have hloc : ∀ {r : List pm_V}, 1 ≤ d → (r.map pm_cat).sum ≤ 8 → ((r.map (pm_vl b B)).map fun v => v.category).sum + 15 ≤ R.locals := by
      intro r q1 q2
      rw [pm_cats]; omega
    by_cases h0 : e1 = 1000
    · subst h0
      have hex : pm_i2 st (fun a b r => 1 ≤ d ∧ (r.map pm_cat).sum ≤ 8 ∧ Y d y (pc0 + 3) ls ((0, if pm_wI a < pm_wI b then b else a) :: r) M cb sb Q) := hex
      obtain ⟨a, b', r, rfl, hd1, hcat, hk⟩ := pm_i2_inv hex
      have hl1 : pm_wd e4 (.methodLink (md y).1.cls k Lib.Math.max.name) = true := hl0
      have hq := hloc hd1 hcat
      refine va_mmax hx hb (hml.trans hL.1.symm) hown (hts _ (pm_us (pm_wd.mem hl1) rfl)) (hts _ (pm_us hcl.2.2.2.2.2.2.1.1 rfl)) (hts _ (pm_us hcl.2.2.2.2.2.1 rfl)) (hts _ (pm_us hcl.2.2.2.2.2.2.1.2 rfl)) (by omega) (by omega) (by omega) (by omega) hdec ?_
      have he : (if Int32.ofInt a < Int32.ofInt b' then Int32.ofInt b' else Int32.ofInt a) = Int32.ofInt (if pm_wI a < pm_wI b' then b' else a) := by
        by_cases c1 : pm_wI a < pm_wI b'
        · rw [if_pos c1, if_pos ((pm_wI_lt a b').mpr c1)]
        · rw [if_neg c1, if_neg (fun q => c1 ((pm_wI_lt a b').mp q))]
      have h5 := gs hk
      rw [he]
      exact h5
    by_cases h1 : e1 = 1001
    · subst h1
      have hex : pm_i2 st (fun a b r => 1 ≤ d ∧ (r.map pm_cat).sum ≤ 8 ∧ Y d y (pc0 + 3) ls ((0, if pm_wI b < pm_wI a then b else a) :: r) M cb sb Q) := hex
      obtain ⟨a, b', r, rfl, hd1, hcat, hk⟩ := pm_i2_inv hex
      have hl1 : pm_wd e4 (.methodLink (md y).1.cls k Lib.Math.min.name) = true := hl0
      have hq := hloc hd1 hcat
      refine va_mmin hx hb (hml.trans hL.1.symm) hown (hts _ (pm_us (pm_wd.mem hl1) rfl)) (hts _ (pm_us hcl.2.2.2.2.2.2.2.1.1 rfl)) (hts _ (pm_us hcl.2.2.2.2.2.1 rfl)) (hts _ (pm_us hcl.2.2.2.2.2.2.2.1.2 rfl)) (by omega) (by omega) (by omega) (by omega) hdec ?_
      have he : (if Int32.ofInt b' < Int32.ofInt a then Int32.ofInt b' else Int32.ofInt a) = Int32.ofInt (if pm_wI b' < pm_wI a then b' else a) := by
        by_cases c1 : pm_wI b' < pm_wI a
        · rw [if_pos c1, if_pos ((pm_wI_lt b' a).mpr c1)]
        · rw [if_neg c1, if_neg (fun q => c1 ((pm_wI_lt b' a).mp q))]
      have h5 := gs hk
      rw [he]
      exact h5
    by_cases h2 : e1 = 1002
    · subst h2
      have hex : pm_l2 st (fun a b r => 1 ≤ d ∧ (r.map pm_cat).sum ≤ 8 ∧ Y d y (pc0 + 3) ls ((1, if pm_wL b < pm_wL a then b else a) :: r) M cb sb Q) := hex
      obtain ⟨a, b', r, rfl, hd1, hcat, hk⟩ := pm_l2_inv hex
      have hl1 : pm_wd e4 (.methodLink (md y).1.cls k Lib.MathLoose.min_long.x) = true := hl0
      have hq := hloc hd1 hcat
      refine va_mmin_long hx hb (hml.trans hL.1.symm) hown (hts _ (pm_us (pm_wd.mem hl1) rfl)) (hts _ (pm_us hcl.2.2.2.2.2.2.2.2.1 rfl)) (hts _ (pm_us hcl.2.2.2.2.2.1 rfl)) (hts _ (pm_us hcl.2.2.2.2.2.2.2.2.2 rfl)) (by omega) (by omega) (by omega) (by omega) hdec ?_
      have he : (if Int64.ofInt b' < Int64.ofInt a then Int64.ofInt b' else Int64.ofInt a) = Int64.ofInt (if pm_wL b' < pm_wL a then b' else a) := by
        by_cases c1 : pm_wL b' < pm_wL a
        · rw [if_pos c1, if_pos ((pm_wL_lt b' a).mpr c1)]
        · rw [if_neg c1, if_neg (fun q => c1 ((pm_wL_lt b' a).mp q))]
      have h5 := gs hk
      rw [he]
      exact h5
    unfold pm_ex at hex
    rw [if_neg h0, if_neg h1, if_neg h2] at hex
    obtain ⟨hn, hfl, hcat, d', mc, ms, Qc, rfl, hmc, hms, hcal, hcont⟩ := hex
    have hl1 : (if e1 = 1000 then pm_wd e4 (.methodLink (md y).1.cls k Lib.Math.max.name) else if e1 = 1001 then pm_wd e4 (.methodLink (md y).1.cls k Lib.Math.min.name) else if e1 = 1002 then pm_wd e4 (.methodLink (md y).1.cls k Lib.MathLoose.min_long.x) else decide (e1 < 267 ∧ (md e1).2.2.2.2.2 = 99) && pm_cl (md y).1.cls k e2 e4 (md e1).1) = true := hl0
    rw [if_neg h0, if_neg h1, if_neg h2] at hl1
    rw [Bool.and_eq_true] at hl1
    obtain ⟨g1, g2⟩ := of_decide_eq_true hl1.1
    obtain ⟨w1, w2, w3, w4, w5, w6, w7, -⟩ := mk g1
    have hM := pm_met hom g1 hbB hfl (hY _ _ _ _ _ _ _ _ _ hcal)
    have hstk : st.map (pm_vl b B) = (((st.take (md e1).2.2.2.2.1).reverse).map (pm_vl b B)).reverse ++ (st.drop (md e1).2.2.2.2.1).map (pm_vl b B) := by
      rw [List.map_reverse, List.reverse_reverse, ← List.map_append, List.take_append_drop]
    have hlen : (((st.take (md e1).2.2.2.2.1).reverse).map (pm_vl b B)).length = (md e1).2.2.2.2.1 := by simp; omega
    have hrun : va_Run p l e R s m args below meth c H locs cells slots mc ms (F0 m pc0 lv (st.map (pm_vl b B))) ((st.drop (md e1).2.2.2.2.1).map (pm_vl b B)) (pm_Qc D dA b B L xs Qc (((st.take (md e1).2.2.2.2.1).reverse).map (pm_vl b B)).toArray) (pm_A B) := by
      have hl2 := hl1.2
      unfold pm_cl at hl2
      split at hl2
      · exact va_runSN (n := (md e1).2.2.2.2.1) ⟨hx, hb, hml, hown, hts⟩ hM ⟨⟨⟨rfl, rfl, hfr, by show 8 + ((md e1).2.2.1 + 11) + d' * 60 ≤ R.locals; omega, w1, List.mem_cons_self⟩, hts _ (pm_us w2 rfl), hts _ (pm_us w3 rfl), w4, w5, hts _ (pm_us (pm_wd.mem hl2) rfl)⟩, hts _ (pm_us (w7 g2) rfl), trivial⟩ ⟨pm_Pc.blind, pcAt _⟩ rfl hlen hL.1 hstk (lv_room (by rw [pm_cats]; exact hcat)) hdec (by omega)
      · exact va_runS (n := (md e1).2.2.2.2.1) ⟨hx, hb, hml, hown, hts⟩ hM ⟨⟨rfl, rfl, hfr, by show 8 + ((md e1).2.2.1 + 11) + d' * 60 ≤ R.locals; omega, w1, List.mem_cons_self, hts _ (pm_us w2 rfl), hts _ (pm_us w3 rfl), w4, w5, hts _ (pm_us (pm_wd.mem hl2) rfl)⟩, hts _ (pm_us (w7 g2) rfl)⟩ ⟨pm_Pc.blind, pcAt _⟩ rfl hlen hL.1 hstk (lv_room (by rw [pm_cats]; exact hcat)) hdec (by omega)
    refine pm_fin hrun hS (fun r M' H1 locs1 q1 q2 q3 => ?_)
    have h5 := go (hcont r M' q1) q2 q3 hL (cells' := cells + mc) (slots' := slots + ms) (by omega) (by omega)
    rw [List.map_append] at h5
    exact h5
  case invokevirtual k =>
    obtain ⟨hn, hex⟩ := hex
    obtain ⟨a, rr, hdrop, ho, hfl, hcat, d', mc, ms, Qc, rfl, hmc, hms, hcal, hcont⟩ := pm_r1_inv hex
    have hl1 : (decide (e1 < 267 ∧ (md e1).2.2.2.2.2 ≠ 99 ∧ (md e1).1.name ≠ "<init>") && pm_cl (md y).1.cls k e2 e4 (md e1).1) = true := hl0
    rw [Bool.and_eq_true] at hl1
    obtain ⟨g1, g2, g3⟩ := of_decide_eq_true hl1.1
    obtain ⟨w1, w2, w3, w4, w5, w6, -, w8⟩ := mk g1
    obtain ⟨v1, v2⟩ := w8 g2
    obtain ⟨v3, v4, v5⟩ := v2 g3
    have hM := pm_met hom g1 hbB hfl (hY _ _ _ _ _ _ _ _ _ hcal)
    have hstk : st.map (pm_vl b B) = (((st.take (md e1).2.2.2.2.1).reverse).map (pm_vl b B)).reverse ++ .ref (B + a.toNat) :: rr.map (pm_vl b B) := by
      rw [← pm_vl_r (b := b) ho.1, ← List.map_cons, ← hdrop, List.map_reverse, List.reverse_reverse, ← List.map_append, List.take_append_drop]
    have hlen : (((st.take (md e1).2.2.2.2.1).reverse).map (pm_vl b B)).length = (md e1).2.2.2.2.1 := by simp; omega
    have hpre : PreV s H (md e1).1.cls (B + a.toNat) (pm_Pc D dA b B L xs ((2, a) :: (st.take (md e1).2.2.2.2.1).reverse) M) (((st.take (md e1).2.2.2.2.1).reverse).map (pm_vl b B)) := by
      refine ⟨pm_Pc.blind, ?_, fun U hU hW => ?_⟩
      · rw [← v5]
        exact va_recv hK (hR.ob (by omega) ho) (pm_CC_at v4) (q0 := 0) rfl
      · have := pcAt ((2, a) :: (st.take (md e1).2.2.2.2.1).reverse) U hU hW
        rw [List.map_cons, pm_vl_r ho.1] at this
        exact this
    have hrun : va_Run p l e R s m args below meth c H locs cells slots mc ms (F0 m pc0 lv (st.map (pm_vl b B))) (rr.map (pm_vl b B)) (pm_Qc D dA b B L xs Qc (Value.ref (B + a.toNat) :: ((st.take (md e1).2.2.2.2.1).reverse).map (pm_vl b B)).toArray) (pm_A B) := by
      have hl2 := hl1.2
      unfold pm_cl at hl2
      split at hl2
      · exact va_runVN (n := (md e1).2.2.2.2.1) ⟨hx, hb, hml, hown, hts⟩ hM ⟨⟨⟨rfl, rfl, hfr, by show 8 + ((md e1).2.2.1 + 11) + d' * 60 ≤ R.locals; omega, w1, List.mem_cons_self⟩, hts _ (pm_us w2 rfl), hts _ (pm_us w3 rfl), w4, w5, hts _ (pm_us (pm_wd.mem hl2) rfl)⟩, hts _ (pm_us v1 rfl), hts _ (pm_us v3 rfl)⟩ hpre rfl hlen hL.1 hstk (lv_room (by rw [pm_cats]; exact hcat)) hdec (by omega)
      · exact va_runV (n := (md e1).2.2.2.2.1) ⟨hx, hb, hml, hown, hts⟩ hM ⟨⟨rfl, rfl, hfr, by show 8 + ((md e1).2.2.1 + 11) + d' * 60 ≤ R.locals; omega, w1, List.mem_cons_self, hts _ (pm_us w2 rfl), hts _ (pm_us w3 rfl), w4, w5, hts _ (pm_us (pm_wd.mem hl2) rfl)⟩, hts _ (pm_us v1 rfl), hts _ (pm_us v3 rfl)⟩ hpre rfl hlen hL.1 hstk (lv_room (by rw [pm_cats]; exact hcat)) hdec (by omega)
    refine pm_fin hrun hS (fun r M' H1 locs1 q1 q2 q3 => ?_)
    have h5 := go (hcont r M' q1) q2 q3 hL (cells' := cells + mc) (slots' := slots + ms) (by omega) (by omega)
    rw [List.map_append] at h5
    exact h5
  case invokespecial k =>
    by_cases h9 : e1 = 999
    · subst h9
      have hex : pm_r1 st (fun a r => 0 ≤ a ∧ (r.map pm_cat).sum ≤ 8 ∧ 1 ≤ d ∧ Y d y (pc0 + 3) ls r M cb sb Q) := hex
      obtain ⟨a, r, rfl, h0, hcat, hd1, hk⟩ := pm_r1_inv hex
      have hl1 : pm_wd e4 (.methodLink (md y).1.cls k Lib.objectInit) = true := hl0
      have hroom : 2 * (F0 m pc0 lv ([] : List Value)).monitorRoom + ((r.map (pm_vl b B)).map fun v => v.category).sum ≤ 8 := lv_room (by rw [pm_cats]; exact hcat)
      rw [List.map_cons, pm_vl_r0 h0]
      refine W.objInit hx hb hown (hts _ (pm_us (pm_wd.mem hl1) rfl)) (hts _ (pm_us hcl.2.2.2.1 rfl)) (hts _ (pm_us hcl.2.2.2.2.1 rfl)) rfl (hL.1.trans hml.symm) rfl hdec (by omega) ?_ (gs hk)
      have h6 : 2 * (F0 m pc0 lv (.ref (pm_ad b B a.toNat) :: r.map (pm_vl b B))).monitorRoom + ((r.map (pm_vl b B)).map fun v => v.category).sum ≤ 8 := hroom
      omega
    · unfold pm_ex at hex
      rw [if_neg h9] at hex
      obtain ⟨hn, hex⟩ := hex
      obtain ⟨a, rr, hdrop, h0, hfl, hcat, d', mc, ms, Qc, rfl, hmc, hms, hcal, hcont⟩ := pm_r1_inv hex
      have hl0 : (if e1 = 999 then pm_wd e4 (.methodLink (md y).1.cls k Lib.objectInit) else decide (e1 < 267 ∧ (md e1).2.2.2.2.2 ≠ 99 ∧ (md e1).1.name = "<init>" ∧ (md e1).2.2.2.1 = none) && pm_cl (md y).1.cls k e2 e4 (md e1).1) = true := hl0
      rw [if_neg h9, Bool.and_eq_true] at hl0
      obtain ⟨g1, g2, g3, g4⟩ := of_decide_eq_true hl0.1
      obtain ⟨w1, w2, w3, w4, w5, w6, -, w8⟩ := mk g1
      obtain ⟨v1, v2⟩ := w8 g2
      have hM := pm_met hom g1 hbB hfl (hY _ _ _ _ _ _ _ _ _ hcal)
      have hstk : st.map (pm_vl b B) = (((st.take (md e1).2.2.2.2.1).reverse).map (pm_vl b B)).reverse ++ .ref (pm_ad b B a.toNat) :: rr.map (pm_vl b B) := by
        rw [← pm_vl_r0 (b := b) h0, ← List.map_cons, ← hdrop, List.map_reverse, List.reverse_reverse, ← List.map_append, List.take_append_drop]
      have hlen : (((st.take (md e1).2.2.2.2.1).reverse).map (pm_vl b B)).length = (md e1).2.2.2.2.1 := by simp; omega
      have hpre : PreS s H (pm_Pc D dA b B L xs ((2, a) :: (st.take (md e1).2.2.2.2.1).reverse) M) (.ref (pm_ad b B a.toNat) :: ((st.take (md e1).2.2.2.2.1).reverse).map (pm_vl b B)) := by
        refine ⟨pm_Pc.blind, fun U hU hW => ?_⟩
        have := pcAt ((2, a) :: (st.take (md e1).2.2.2.2.1).reverse) U hU hW
        rw [List.map_cons, pm_vl_r0 h0] at this
        exact this
      rw [g4] at w2
      have w1' := w1
      unfold pm_ws at w1' hM
      rw [g4] at w1' hM
      have hrun : va_Run p l e R s m args below meth c H locs cells slots mc ms (F0 m pc0 lv (st.map (pm_vl b B))) (rr.map (pm_vl b B)) (pm_Qc D dA b B L xs Qc (Value.ref (pm_ad b B a.toNat) :: ((st.take (md e1).2.2.2.2.1).reverse).map (pm_vl b B)).toArray) (pm_A B) := by
        have hl2 := hl0.2
        unfold pm_cl at hl2
        split at hl2
        · exact va_runIN (n := (md e1).2.2.2.2.1) ⟨hx, hb, hml, hown, hts⟩ hM ⟨⟨⟨rfl, rfl, hfr, by show 8 + ((md e1).2.2.1 + 11) + d' * 60 ≤ R.locals; omega, w1', List.mem_cons_self⟩, hts _ (pm_us w2 rfl), hts _ (pm_us w3 rfl), w4, w5, hts _ (pm_us (pm_wd.mem hl2) rfl)⟩, g3, hts _ (pm_us v1 rfl)⟩ hpre rfl hlen hL.1 hstk (lv_room (by rw [pm_cats]; exact hcat)) hdec (by omega)
        · exact va_runI (n := (md e1).2.2.2.2.1) ⟨hx, hb, hml, hown, hts⟩ hM ⟨⟨rfl, rfl, hfr, by show 8 + ((md e1).2.2.1 + 11) + d' * 60 ≤ R.locals; omega, w1', List.mem_cons_self, hts _ (pm_us w2 rfl), hts _ (pm_us w3 rfl), w4, w5, hts _ (pm_us (pm_wd.mem hl2) rfl)⟩, g3, hts _ (pm_us v1 rfl)⟩ hpre rfl hlen hL.1 hstk (lv_room (by rw [pm_cats]; exact hcat)) hdec (by omega)
      refine pm_fin hrun hS (fun r M' H1 locs1 q1 q2 q3 => ?_)
      have h5 := go (hcont r M' q1) q2 q3 hL (cells' := cells + mc) (slots' := slots + ms) (by omega) (by omega)
      rw [List.map_append] at h5
      exact h5
  all_goals exact False.elim hex
end SND2
