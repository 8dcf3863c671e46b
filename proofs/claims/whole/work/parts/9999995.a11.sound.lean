/-! ===== the pure machine is sound: what it comes to, the machine comes to ===== -/
/-- how a method may end -/
def pm_rt (ret : Option FieldType) (i : Instr) (r : Option pm_V) : Prop :=
  (ret = some .int ∧ i = .ireturn ∧ ∃ z, r = some (0, z)) ∨ (ret = some .boolean ∧ i = .ireturn ∧ ∃ z, (z = 0 ∨ z = 1) ∧ r = some (0, z)) ∨ (ret = some .long ∧ i = .lreturn ∧ ∃ z, r = some (1, z)) ∨ ((∃ n, ret = some (.object n)) ∧ i = .areturn ∧ ∃ z, 0 ≤ z ∧ r = some (2, z)) ∨ (ret = none ∧ i = .return_ ∧ r = none)
/-- words that go from the state to a callee's -/
def lw_gd : List Jvm.Cond := lw_tbl.filter goodWord
def lw_us : List Jvm.Cond := lw_tbl.filter pm_ug
theorem pm_us {w : Jvm.Cond} (h : w ∈ lw_tbl) (hg : pm_ug w = true) : w ∈ lw_us := List.mem_filter.mpr ⟨h, hg⟩
theorem pm_clsU {c : Nat} (h : c < 13) : ∀ w ∈ u_ws (pm_CC c).1 (pm_CC c).2.1 (pm_CC c).2.2, w ∈ lw_us := by
  intro w hw
  refine pm_us ((pm_cls h).1 w hw) ?_
  obtain ⟨k, -, rfl⟩ := List.mem_map.mp hw
  unfold u_lay
  split <;> rfl
def pm_Bd (U : State) : Prop := ∀ w ∈ lw_tbl, pm_nob w = true → w.before #[] U = true
theorem pm_Bd.warm {s U : State} (hW : s.WarmedH U.vm) (h : pm_Bd s) : pm_Bd U := by
  intro w hw hn
  have h1 := h w hw hn
  unfold pm_nob at hn
  split at hn
  · exact va_Nw.warmM hW h1
  · exact va_AO.moved hW.alike h1
  · cases hn
theorem pm_Bd.call {U : State} {g : JFrame} {mk : MethodId} {a : Array Value} (h : pm_Bd U) : pm_Bd (U.calling g mk a) := by
  intro w hw hn
  have h1 := h w hw hn
  unfold pm_nob at hn
  split at hn
  · exact va_Nw.same (u := U) rfl rfl h1
  · exact va_AO.moved (u := U) (Vm.Alike.refl U.vm) h1
  · cases hn
theorem pm_Bd.use {s : State} {args : Array Value} (h : pm_Bd s) {w : Jvm.Cond} (hw : w ∈ lw_tbl) (hn : pm_nob w = true) : w.before args s = true := by
  have h1 := h w hw hn
  unfold pm_nob at hn
  split at hn
  · exact va_Nw.use rfl h1
  · exact va_AO.use h1
  · cases hn
theorem pm_Bd.of {s : State} {args : Array Value} (h : ∀ w ∈ lw_us, w.before args s = true) : pm_Bd s := by
  intro w hw hn
  have h1 := h w (pm_us hw (by unfold pm_ug; rw [hn, Bool.or_true]))
  unfold pm_nob at hn
  split at hn
  · exact va_Nw.of rfl h1
  · exact va_AO.of h1
  · cases hn
def pm_A (B : Nat) : Nat → Prop := fun q => B < q
section SND
variable (md : pm_Md) (l : Launch) (D : va_G) (dA : Nat → ClassId) (b B L : Nat) (xs : Nat → Int32)
def pm_X : pm_K := fun d y pc ls st M cb sb Q =>
  ∀ (p : Program) (e : Env) (R : Room) (s : State) (m : MethodId) (args : Array Value) (below : List Frame) (meth : Method) (c : Code) (Z : State → Prop) (mT sT : Nat),
    y < 268 → p.tables.exec = Jvm.exec → c.code = (md y).2.1 → c.maxLocals = (md y).2.2.1 → s.vm.findClass (md y).1.cls = some m.cls → ((md y).1.name = "<init>" → meth.name = "<init>") →
    (∀ w ∈ lw_us, w.before args s = true) → va_K D vwCl (pm_tys dA) s → va_X b L xs s s.heap → b ≤ B → B < s.heap.size → d ≤ R.frames → d * 60 ≤ R.locals → mT ≤ R.cells → sT ≤ R.slots →
    (∀ (r : Option pm_V) (M' : pm_M), Q r M' → ∀ (H : Heap) (locs : List Loc) (cells slots pc : Nat) (lv : Array Slot) (i : Instr), pm_R D dA b B L xs M' H → va_S (pm_A B) s.heap H locs → cells ≤ mT → slots ≤ sT → decode (md y).2.1 pc = .ok (i, 1) → pm_rt (md y).2.2.2.1 i r →
      W p l e R s m args below meth c H locs cells slots Z (F0 m pc lv (r.toList.map (pm_vl b B)))) →
    ∀ (H : Heap) (locs : List Loc) (cells slots : Nat) (lv : Array Slot), pm_R D dA b B L xs M H → va_S (pm_A B) s.heap H locs → pm_L b B ls lv (md y).2.2.1 → cells + cb ≤ mT → slots + sb ≤ sT →
      W p l e R s m args below meth c H locs cells slots Z (F0 m pc lv (st.map (pm_vl b B)))
def pm_Pc (as : List pm_V) (M : pm_M) : Array Value → State → Prop := va_Pc (as.map (pm_vl b B)) (fun U => pm_R D dA b B L xs M U.heap ∧ va_K D vwCl (pm_tys dA) U ∧ va_X b L xs U U.heap ∧ B < U.heap.size ∧ pm_Bd U)
def pm_Qc (Q : pm_Q) : Array Value → State → Outcome → State → Prop := fun _ st oc t => (∃ (r : Option pm_V) (M' : pm_M), oc = .returned (r.map (pm_vl b B)) ∧ Q r M' ∧ pm_R D dA b B L xs M' t.heap) ∧ va_F (pm_A B) st t
def pm_ws (y : Nat) : List Jvm.Cond := .code (md y).1 (md y).2.1 (md y).2.2.1 (md y).2.2.2.1 :: lw_gd
variable {md l D dA b B L xs}
theorem pm_Pc.blind {as : List pm_V} {M : pm_M} : FrameBlind (pm_Pc D dA b B L xs as M) := by
  intro a U g mk h
  obtain ⟨h1, h2, h3, h4, h5, h6⟩ := h
  exact ⟨h1, h2, va_K.moved (u := U) (U := U.calling g mk a) (Vm.Alike.refl U.vm) h3, h4.moved (u := U) (U := U.calling g mk a) (Vm.Alike.refl U.vm), h5, h6.call⟩
/-- a method's contract, out of its entry -/
theorem pm_met {pl : Nat → Nat × Nat × Nat × Nat} (hom : ∀ y, y < 267 → pm_okm md y (pl y) = true) {d y mc ms : Nat} {M : pm_M} {as : List pm_V} {Q : pm_Q} (hy : y < 267) (hbB : b ≤ B) (ha : (pm_fl as).length ≤ (md y).2.2.1)
    (hX : pm_X md l D dA b B L xs d y 0 (pm_en as (md y).2.2.1) [] M mc ms Q) :
    Met l (md y).1 (pm_ws md y) { frames := d, cells := mc, slots := ms, locals := d * 60 } (pm_Pc D dA b B L xs as M) (pm_Qc D dA b B L xs Q) mc ms (pm_A B) := by
  have hm := hom y hy
  unfold pm_okm at hm
  simp only [Bool.and_eq_true, decide_eq_true_eq] at hm
  obtain ⟨h1, h2, ⟨h3, h4, h5, h6, h7⟩, h8⟩ := hm
  refine Met.ofW (cc := (md y).2.1) (maxL := (md y).2.2.1) (ret := (md y).2.2.2.1) h6 rfl ?_
  intro p e s m args below meth c s₁ Bd hml hv
  obtain ⟨rfl, hR, hK, hXs, hBs, hBd⟩ := hv
  have hts0 := atoms_spec (ws := pm_ws md y) Bd.pre
  have hts : ∀ w ∈ lw_us, w.before ((as.map (pm_vl b B)).toArray) s = true := by
    intro w hw
    obtain ⟨hw, hu⟩ := List.mem_filter.mp hw
    by_cases hg : goodWord w = true
    · exact hts0 w (List.mem_cons_of_mem _ (List.mem_filter.mpr ⟨hw, hg⟩))
    · refine hBd.use hw ?_
      unfold pm_ug at hu
      rw [Bool.or_eq_true] at hu
      exact hu.resolve_left hg
  have hown : s.vm.findClass (md y).1.cls = some m.cls := findClass_of_methodNamed Bd.named
  have hin : (md y).1.name = "<init>" → meth.name = "<init>" := fun h => (name_of_methodNamed Bd.named Bd.method).1.trans h
  have hlocks := Bd.notSynchronized
  have hx := Bd.exec
  have hb := Bd.bytes
  rw [lg_entry_eq]
  refine hX p e _ s m _ below meth c _ mc ms (by omega) hx hb hml hown hin hts hK hXs hbB hBs (Nat.le_refl d) (Nat.le_refl _) (Nat.le_refl _) (Nat.le_refl _) ?_ s.heap [] 0 0 _ hR va_S.rf (pm_L.entry b B as ha) (by omega) (by omega)
  intro r M' hQ H locs cells slots pc lv i hR' hS' hc hs hdec hrt
  refine W.widen hc hs ?_
  have hq : ∀ t : State, t.heap = H → pm_Qc D dA b B L xs Q ((as.map (pm_vl b B)).toArray) s (.returned (r.map (pm_vl b B))) t := fun t ht => ⟨⟨r, M', rfl, hQ, by rw [ht]; exact hR'⟩, hS'.F ht⟩
  have hf : ∀ q ∈ locs, pm_A B q.base := hS'.2.2
  have hret := Bd.returns
  rcases hrt with ⟨q1, rfl, z, rfl⟩ | ⟨q1, rfl, z, hz, rfl⟩ | ⟨q1, rfl, z, rfl⟩ | ⟨⟨n, q1⟩, rfl, z, hz, rfl⟩ | ⟨q1, rfl, rfl⟩
  · exact W.iret (v := Int32.ofInt z) hx hb (hret.trans q1) (fun t ht _ => hq t ht) hf hdec hlocks
  · refine W.zret (v := Int32.ofInt z) (ty := .boolean) hx hb (hret.trans q1) ?_ (fun t ht _ => hq t ht) hf hdec hlocks
    rcases hz with rfl | rfl <;> rfl
  · exact W.lret (v := Int64.ofInt z) hx hb (hret.trans q1) (fun t ht _ => hq t ht) hf hdec hlocks
  · exact W.aret (v := pm_vl b B (2, z)) hx hb (hret.trans q1) (Or.inl ⟨n, rfl⟩) (Or.inr ⟨_, pm_vl_r0 hz⟩) (fun t ht _ => hq t ht) hf hdec hlocks
  · exact W.vret hx hb (hret.trans q1) (fun t ht _ => hq t ht) hf hdec hlocks
theorem pm_fs_at {c k : Nat} {f : Nat → Int} (hk : k < pm_nf c) : (pm_fs b B c f)[k]? = some (pm_vl b B (pm_tg (pm_ft c k), f k)) := by
  unfold pm_fs
  rw [List.getElem?_map, List.getElem?_range hk]; rfl
theorem pm_fs_V {c k : Nat} {f : Nat → Int} (hk : k < pm_nf c) : vp_V (pm_fs b B c f) k = pm_vl b B (pm_tg (pm_ft c k), f k) := by
  unfold vp_V
  rw [List.getD_eq_getElem?_getD, pm_fs_at hk]; rfl
theorem pm_fit {ty : FieldType} (ho : pm_tyo ty = true) {z : Int} (hz : ty = .boolean → z = 0 ∨ z = 1) : narrow ty (pm_vl b B (pm_tg ty, z)) = pm_vl b B (pm_tg ty, z) ∧ fits ty (pm_vl b B (pm_tg ty, z)) = true := by
  cases ty with
  | int => exact ⟨rfl, rfl⟩
  | long => exact ⟨rfl, rfl⟩
  | boolean => rcases hz rfl with rfl | rfl <;> exact ⟨rfl, rfl⟩
  | object n =>
    show narrow _ (va_rf (pm_rf b B z)) = va_rf (pm_rf b B z) ∧ fits _ (va_rf (pm_rf b B z)) = true
    cases pm_rf b B z <;> exact ⟨rfl, rfl⟩
  | array n =>
    show narrow _ (va_rf (pm_rf b B z)) = va_rf (pm_rf b B z) ∧ fits _ (va_rf (pm_rf b B z)) = true
    cases pm_rf b B z <;> exact ⟨rfl, rfl⟩
  | _ => simp [pm_tyo] at ho
section ROWS
variable {p : Program} {e : Env} {R : Room} {s : State} {m : MethodId} {args : Array Value} {below : List Frame} {meth : Method} {c : Code} {H : Heap} {locs : List Loc} {cells slots : Nat} {Z : State → Prop} {cc : ByteArray} {pc : Nat} {lv : Array Slot} {M : pm_M} {rest : List Value}
theorem pm_getf (hx : p.tables.exec = Jvm.exec) (hb : c.code = cc) {own : String} (hown : s.vm.findClass own = some m.cls) (hts : ∀ w ∈ lw_us, w.before args s = true) (hK : va_K D vwCl (pm_tys dA) s) (hR : pm_R D dA b B L xs M H) {a : Int} {ci k ix : Nat} (hci : ci < 13) (hk : k < pm_nf ci) (ho : pm_ob M a ci)
    (hlink : Cond.fieldLink own ix ((pm_CC ci).2.1 k).1 ((pm_CC ci).2.1 k).2.1 ((pm_CC ci).2.1 k).2.2.1 ∈ lw_tbl) (hdec : decode cc pc = .ok (.getfield ix, 3))
    (kk : W p l e R s m args below meth c H locs cells slots Z (F0 m (pc + 3) lv (pm_vl b B (pm_tg (pm_ft ci k), pm_ct M a.toNat k) :: rest))) : W p l e R s m args below meth c H locs cells slots Z (F0 m pc lv (.ref (B + a.toNat) :: rest)) :=
  va_get hx hb hts (pm_clsU hci) hown hK (hR.ob (by omega) ho) 0 rfl (pm_CC_at hci) k hk (hts _ (pm_us hlink rfl)) (fun _ h => h) (pm_fs_at hk) hdec kk
theorem pm_putf (hx : p.tables.exec = Jvm.exec) (hb : c.code = cc) {own : String} (hown : s.vm.findClass own = some m.cls) (hts : ∀ w ∈ lw_us, w.before args s = true) (hK : va_K D vwCl (pm_tys dA) s) (hR : pm_R D dA b B L xs M H) {H0 : Heap} (hS : va_S (pm_A B) H0 H locs) {a z : Int} {ci k ix : Nat} (hci : ci < 13) (hk : k < pm_nf ci) (ho : pm_ob M a ci)
    (hlink : Cond.fieldLink own ix ((pm_CC ci).2.1 k).1 ((pm_CC ci).2.1 k).2.1 ((pm_CC ci).2.1 k).2.2.1 ∈ lw_tbl) (hfin : ((pm_CC ci).2.1 k).2.2.2 = false ∨ (meth.name = "<init>" ∧ ((pm_CC ci).2.1 k).1 = own)) (hto : pm_tyo (pm_ft ci k) = true) (hz : pm_ft ci k = .boolean → z = 0 ∨ z = 1) (hdec : decode cc pc = .ok (.putfield ix, 3))
    (kk : ∀ (H1 : Heap) (locs1 : List Loc), pm_R D dA b B L xs (pm_up M a.toNat (pm_upd (pm_ct M a.toNat) k z)) H1 → va_S (pm_A B) H0 H1 locs1 → W p l e R s m args below meth c H1 locs1 cells slots Z (F0 m (pc + 3) lv rest)) :
    W p l e R s m args below meth c H locs cells slots Z (F0 m pc lv (pm_vl b B (pm_tg (pm_ft ci k), z) :: .ref (B + a.toNat) :: rest)) := by
  obtain ⟨-, hty, hnm⟩ := pm_cls hci
  have hin := pm_clsU hci
  have hc := pm_CC_at hci
  have hap := va_apart (own := own) hts hin (pm_ft ci) hty hnm hK hc
  obtain ⟨r, h1, cell, q1, q2, q3, q4⟩ := hR.ob (by omega) ho 0 _ rfl
  have hr : r = pm_CC ci := Option.some.inj (h1.symm.trans hc)
  subst hr
  obtain ⟨hSl, hfc, kC, hkC, hkind⟩ := hK.1 ci _ hc
  obtain ⟨cf, kf, fi, f, hi, hsl⟩ := hSl k hk
  have hlay := hts _ (hin _ (u_in_lay hk))
  have hst := (u_facts hfc hkC (u_lays hts hin hk) hi).1
  obtain ⟨hn, hfit⟩ := pm_fit (b := b) (B := B) hto hz
  have done : ∀ H' : Heap, H'[B + a.toNat]? = some (cell.setSlot f.slot (pm_vl b B (pm_tg (pm_ft ci k), z))) → H'.size = H.size → (∀ q, q ≠ B + a.toNat → H'[q]? = H[q]?) → W p l e R s m args below meth c H' (locs ++ [⟨B + a.toNat, f.slot⟩]) cells slots Z (F0 m (pc + 3) lv rest) := by
    intro H' e1 e2 e3
    rw [hsl] at e1
    have hkd : pm_kd M a.toNat = ci := ho.2.2
    refine kk H' _ (hR.put (by have := ho.1; omega) ho.2.1 _ e2 e3 ?_) (hS.put e2 e3 (show B < B + a.toNat by have := ho.1; omega))
    unfold pm_nt
    rw [if_pos (show pm_kd M a.toNat < 100 by rw [hkd]; omega)]
    show ∃ r : vw_C, vwCl[pm_kd M a.toNat]? = some r ∧ _
    rw [hkd]
    refine ⟨_, hc, t_OB.to (V := updV (vp_V (pm_fs b B ci (pm_ct M a.toNat))) k (pm_vl b B (pm_tg (pm_ft ci k), z))) ⟨_, e1, q2, q3, t_set q4 hap hk _⟩ (fun j hj => ?_)⟩
    rw [pm_fs_V hj]
    unfold updV pm_upd
    by_cases hjk : j = k
    · subst hjk; simp
    · simp only [if_neg hjk]; rw [pm_fs_V hj]
  rcases hfin with hfin | ⟨hinit, hdecl⟩
  · unfold u_lay at hlay
    rw [if_neg (by rw [hfin]; decide)] at hlay
    have h6 := u_store hfc hkC hkind hlay hi (hty k hk) hn hfit
    exact W.putK hx hb (f := f) ⟨hown, hts _ (pm_us hlink rfl), ⟨_, _, _, hi⟩, hst⟩ (by rw [q2]; exact h6) q1 q3 (by rw [hsl]; exact k2_hasslot (q4 k hk)) rfl rfl hdec done
  · by_cases hff : ((pm_CC ci).2.1 k).2.2.2 = true
    · unfold u_lay at hlay
      rw [if_pos hff] at hlay
      have hcf : m.cls = cf := by
        obtain ⟨_, _, c', _, _, _, -, -, hf', -, -, -, hown2, -⟩ := Cond.laysFinal_spec hlay
        have e1 : c' = cf := by have := hi.symm.trans hf'; simp at this; exact this.1.symm
        rw [hdecl] at hown2
        rw [← e1]; exact Option.some.inj (hown.symm.trans hown2)
      have h6 := u_fits hfc hkC hkind (Or.inr hlay) hi (hty k hk) hn hfit
      exact W.putFinK hx hb hown (hts _ (pm_us hlink rfl)) hi hst hcf hinit (by rw [q2]; exact h6) q1 q3 (by rw [hsl]; exact k2_hasslot (q4 k hk)) rfl rfl hdec done
    · unfold u_lay at hlay
      rw [if_neg hff] at hlay
      have h6 := u_store hfc hkC hkind hlay hi (hty k hk) hn hfit
      exact W.putK hx hb (f := f) ⟨hown, hts _ (pm_us hlink rfl), ⟨_, _, _, hi⟩, hst⟩ (by rw [q2]; exact h6) q1 q3 (by rw [hsl]; exact k2_hasslot (q4 k hk)) rfl rfl hdec done
theorem pm_tys_at (k : Nat) {c : Nat} (hc : c = 100 + k) (hk : k < 6) : ∃ ty, (pm_tys dA)[k]? = some (dA c, ty) := by
  subst hc
  match k, hk with
  | 0, _ => exact ⟨_, rfl⟩
  | 1, _ => exact ⟨_, rfl⟩
  | 2, _ => exact ⟨_, rfl⟩
  | 3, _ => exact ⟨_, rfl⟩
  | 4, _ => exact ⟨_, rfl⟩
  | 5, _ => exact ⟨_, rfl⟩
/-- behind a store into an array -/
theorem pm_stored (hR : pm_R D dA b B L xs M H) {H0 : Heap} (hS : va_S (pm_A B) H0 H locs) {a : Int} {i k : Nat} {z : Int} {v : Value} (h0 : 0 < a) (h1 : a.toNat < M.1) (hk : 100 ≤ k) (hkd : pm_kd M a.toNat = k) {H1 : Heap}
    (e : H1[B + a.toNat]? = some ((vp_cell (dA k) (pm_ln M a.toNat, pm_ar b B k (pm_ct M a.toNat))).setSlot i v)) (hcell : (vp_cell (dA k) (pm_ln M a.toNat, pm_ar b B k (pm_ct M a.toNat))).setSlot i v = vp_cell (dA k) (pm_ln M a.toNat, pm_ar b B k (pm_upd (pm_ct M a.toNat) i z)))
    (ez : H1.size = H.size) (eo : ∀ q, q ≠ B + a.toNat → H1[q]? = H[q]?) : pm_R D dA b B L xs (pm_up M a.toNat (pm_upd (pm_ct M a.toNat) i z)) H1 ∧ va_S (pm_A B) H0 H1 (locs ++ [⟨B + a.toNat, i⟩]) := by
  refine ⟨hR.put (by omega) h1 _ ez eo ?_, hS.put ez eo (show B < B + a.toNat by omega)⟩
  unfold pm_nt
  rw [if_neg (show ¬ pm_kd M a.toNat < 100 by omega), hkd]
  show H1[B + a.toNat]? = some (vp_cell _ _)
  rw [e, hcell]
end ROWS
theorem pm_cell_i {cA : ClassId} {n i : Nat} {f : Nat → Int} {z : Int} : (vp_cell cA (n, pm_ar b B 100 f)).setSlot i (.int (Int32.ofInt z)) = vp_cell cA (n, pm_ar b B 100 (pm_upd f i z)) := by
  show (arrV cA n (fun j => .int (Int32.ofInt (f j)))).setSlot i _ = arrV cA n (fun j => .int (Int32.ofInt (pm_upd f i z j)))
  rw [arrV_store]; congr 1; funext j; unfold updV pm_upd; split <;> rfl
theorem pm_cell_l {cA : ClassId} {n i : Nat} {f : Nat → Int} {z : Int} : (vp_cell cA (n, pm_ar b B 101 f)).setSlot i (.long (Int64.ofInt z)) = vp_cell cA (n, pm_ar b B 101 (pm_upd f i z)) := by
  show (arrV cA n (fun j => .long (Int64.ofInt (f j)))).setSlot i _ = arrV cA n (fun j => .long (Int64.ofInt (pm_upd f i z j)))
  rw [arrV_store]; congr 1; funext j; unfold updV pm_upd; split <;> rfl
theorem pm_cell_b {cA : ClassId} {n i : Nat} {f : Nat → Int} {z : Int} : (vp_cell cA (n, pm_ar b B 102 f)).setSlot i (narrow .byte (.int (Int32.ofInt z))) = vp_cell cA (n, pm_ar b B 102 (pm_upd f i (pm_b8 z))) := by
  show (arrV cA n (fun j => .int (Int32.ofInt (f j)))).setSlot i _ = arrV cA n (fun j => .int (Int32.ofInt (pm_upd f i (pm_b8 z) j)))
  rw [arrV_store]; congr 1; funext j; unfold updV pm_upd
  split
  · show Value.int _ = Value.int _
    unfold pm_b8
    rw [Int32.ofInt_toInt]
  · rfl
theorem pm_ar_q {k : Nat} (h : 103 ≤ k) (f : Nat → Int) : pm_ar b B k f = .inr (.inr (.inr (.inr fun j => pm_rf b B (f j)))) := by
  unfold pm_ar; rw [if_neg (by omega), if_neg (by omega)]
theorem pm_cell_q {cA : ClassId} {n i k : Nat} (h : 103 ≤ k) {f : Nat → Int} {z : Int} (hz : 0 < z) : (vp_cell cA (n, pm_ar b B k f)).setSlot i (.ref (B + z.toNat)) = vp_cell cA (n, pm_ar b B k (pm_upd f i z)) := by
  rw [pm_ar_q h, pm_ar_q h]
  show (arrV cA n (fun j => va_rf (pm_rf b B (f j)))).setSlot i _ = arrV cA n (fun j => va_rf (pm_rf b B (pm_upd f i z j)))
  rw [arrV_store]; congr 1; funext j; unfold updV pm_upd
  split
  · exact (pm_vl_r hz).symm
  · rfl
theorem pm_K_elem {k : Nat} (h1 : 103 ≤ k) (h2 : k ≤ 105) : ∃ t0 : Nat, (pm_tys dA)[t0]? = some (dA k, FieldType.object (pm_el k)) := by
  rcases (by omega : k = 103 ∨ k = 104 ∨ k = 105) with rfl | rfl | rfl
  · exact ⟨3, rfl⟩
  · exact ⟨4, rfl⟩
  · exact ⟨5, rfl⟩
theorem pm_dfv {ty : FieldType} (h : pm_tyo ty = true) : defaultValue ty = pm_vl b B (pm_tg ty, pm_df ty) := by
  cases ty with
  | int => rfl
  | boolean => rfl
  | long => rfl
  | object n => rfl
  | array n => rfl
  | _ => simp [pm_tyo] at h
theorem pm_lk_at {a : Int} {k : Int → Prop} {dflt : Int} : ∀ os : List (Int × Int), pm_lk a k dflt os → k (Op.lookupswitch.offset os dflt a) := by
  intro os
  induction os with
  | nil => intro h; exact h
  | cons q os ih =>
    intro h
    obtain ⟨h1, h2⟩ := h
    obtain ⟨u, o⟩ := q
    rw [Op.lookupswitch.offset_cons]
    by_cases hq : a = u
    · rw [if_pos hq.symm]; exact h1 hq
    · rw [if_neg (fun z => hq z.symm)]; exact ih (h2 hq)
/-- the words that the tables must have besides -/
def pm_words : Prop := (Cond.arrayClass .int ∈ lw_tbl ∧ Cond.arrayClass .long ∈ lw_tbl ∧ Cond.arrayClass .byte ∈ lw_tbl) ∧ (∀ k, 103 ≤ k → k ≤ 105 → Cond.arrayOver (.object (pm_el k)) ∈ lw_tbl) ∧ (∀ c, c < 13 → Cond.instantiable (pm_CC c).1 (pm_CC c).2.2 ∈ lw_tbl ∧ Cond.initialized (pm_CC c).1 ∈ lw_tbl ∧ ∀ k, k < pm_nf c → pm_tyo (pm_ft c k) = true) ∧ Cond.instanceMethod Lib.objectInit ∈ lw_tbl ∧ Cond.code Lib.objectInit ⟨#[0xb1]⟩ 1 none ∈ lw_tbl ∧ Cond.initialized "java/lang/Math" ∈ lw_tbl ∧ (Cond.static Lib.Math.max.name ∈ lw_tbl ∧ Cond.code Lib.Math.max.name Lib.Math.max.code 2 (some .int) ∈ lw_tbl) ∧ (Cond.static Lib.Math.min.name ∈ lw_tbl ∧ Cond.code Lib.Math.min.name Lib.Math.min.code 2 (some .int) ∈ lw_tbl) ∧ Cond.static Lib.MathLoose.min_long.x ∈ lw_tbl ∧ Cond.code Lib.MathLoose.min_long.x Lib.MathLoose.min_long.code 4 (some .long) ∈ lw_tbl
section FIN
variable {p : Program} {e : Env} {R : Room} {s : State} {m : MethodId} {args : Array Value} {below : List Frame} {meth : Method} {c : Code} {H : Heap} {locs : List Loc} {cells slots : Nat} {Z : State → Prop} {pc : Nat} {lv : Array Slot} {rest st0 : List Value} {mc ms : Nat} {a : Array Value} {Qc : pm_Q}
theorem pm_fin (hr : va_Run p l e R s m args below meth c H locs cells slots mc ms (F0 m pc lv st0) rest (pm_Qc D dA b B L xs Qc a) (pm_A B)) (hS : va_S (pm_A B) s.heap H locs)
    (kk : ∀ (r : Option pm_V) (M' : pm_M) (H1 : Heap) (locs1 : List Loc), Qc r M' → pm_R D dA b B L xs M' H1 → va_S (pm_A B) s.heap H1 locs1 → W p l e R s m args below meth c H1 locs1 (cells + mc) (slots + ms) Z (F0 m (pc + 3) lv (r.toList.map (pm_vl b B) ++ rest))) : W p l e R s m args below meth c H locs cells slots Z (F0 m pc lv st0) := by
  intro T hT X
  obtain ⟨v, st₀, t, T', Lx, h0, X', hLx, e1, e2, ⟨⟨r, M', hv, hq, hR'⟩, hz, hk⟩, st⟩ := hr T hT X
  have hv : v = r.map (pm_vl b B) := Outcome.returned.inj hv
  subst hv
  rw [h0] at hz hk
  have hh : (Option.map (pm_vl b B) r).toList = r.toList.map (pm_vl b B) := by cases r <;> rfl
  obtain ⟨t2, a1, b1⟩ := kk r M' T'.heap (locs ++ Lx) hq (by rw [e1]; exact hR')
    ⟨Nat.le_trans hS.1 (by rw [e1]; exact hz), fun q h1 h2 => by rw [e1, hk q (Nat.lt_of_lt_of_le h1 hS.1) h2]; exact hS.2.1 q h1 h2, fun q hq => by
      rcases List.mem_append.mp hq with h | h
      · exact hS.2.2 q h
      · exact hLx q h⟩ T' rfl X'
  rw [← hh] at a1
  exact ⟨t2, st t2 a1, b1⟩
end FIN
end SND
