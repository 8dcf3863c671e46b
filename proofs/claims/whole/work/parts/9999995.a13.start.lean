/-! THE CLAIM OUT OF ONE WALK OF THE LAW'S BODY. Your part is whole_start (and what it stands on); all else here is the same for every law, but numbers. -/
def R_law : String := "TalkTablesLaw"
def lw_P (b : Addr) (xs : List Int32) (args : Array Value) (s : State) : Prop := args = #[.ref b] ∧ s.IntsAt b xs ∧ xs.length ≤ 3072 ∧ (Jvm.Cond.and given_1 narrow_1).before args s = true
def lw_Q (_ : Array Value) (s : State) (o : Outcome) (t : State) : Prop := o = .returned (some (.int 1)) ∧ Framed s o t [] 600000 7302250
def lw_Z (below : List Frame) (a : Array Value) (s : State) : State → Prop := fun t => ∃ o, t.status = .running ∧ Ended t below o ∧ lw_Q a s o t
/-- the law's own end, with 1 on the stack, nothing written that was there before, its room as the claim has it -/
theorem lw_ret {p : Program} {l : Launch} {e : Env} {s : State} {m : MethodId} {below : List Frame} {meth : Method} {c : Code} {b : Nat} (hx : p.tables.exec = Jvm.exec) (hb : c.code = code) (hr : meth.sig.returnType = ret) (hlocks : meth.locks = false) {pc : Nat} {H : Heap} {ls : Array Slot} (hdg : decode code pc = .ok (.ireturn, 1)) : W p l e room_1 s m #[Value.ref b] below meth c H [] 600000 7302250 (lw_Z below #[Value.ref b] s) (F0 m pc ls [.int 1]) := by
  intro T hT X
  obtain ⟨fs, hret, hrun, hended, hW, hframe⟩ := X.leave (v := some (.int 1)) (hlocks := hlocks) (fun h => by rw [hr] at h; cases h)
  have hmeth' : T.vm.method? m = some meth := X.method'
  refine ⟨T.setFrames fs, ?_, .returned (some (.int 1)), hrun, hended, rfl, ⟨_, rfl⟩, hW, hframe⟩
  jvm_step X.here [X.here.top, hx, hb, hdg, hmeth', hr, ret, narrow_b1]
  (try refine ⟨rfl, ?_⟩); (try refine ⟨rfl, ?_⟩)
  first | (intro acts; rw [hret _ acts rfl rfl rfl]) | rw [hret _ _ rfl rfl rfl]
  exact Steps.refl _
/-- what holds at the law's entry: the machine, the code, the tables' words (any of lw_tbl by 'hts w (by decide +kernel)'), the script of L ints xs at the cell b, what the Statement gives of the start (any of its parts by flat_of_before) -/
def lw_At (p : Program) (s : State) (m : MethodId) (meth : Method) (c : Code) (b L : Nat) (xs : Nat → Int32) : Prop :=
  p.tables.exec = Jvm.exec ∧ c.code = code ∧ meth.sig.returnType = ret ∧ c.maxLocals = 4 ∧ s.vm.findClass R_law = some m.cls ∧ (∀ w ∈ lw_tbl, w.before #[Value.ref b] s = true) ∧ va_X b L xs s s.heap ∧ b < s.heap.size ∧ meth.locks = false ∧ (Jvm.Cond.and given_1 narrow_1).before #[Value.ref b] s = true
/-- the pure heap at the start: the script alone -/
def pm_M0 (L : Nat) (xs : Nat → Int32) : pm_M := (1, fun a => if a = 0 then (100, L, fun j => (xs j).toInt) else (0, 0, fun _ => 0))
set_option maxRecDepth 100000 in
theorem pm_words_ok : pm_words := by
  refine ⟨⟨?_, ?_, ?_⟩, ?_, ?_, ?_, ?_, ?_, ⟨?_, ?_⟩, ⟨?_, ?_⟩, ?_, ?_⟩
  · exact List.mem_of_getElem? (i := 194) (by decide +kernel)
  · exact List.mem_of_getElem? (i := 320) (by decide +kernel)
  · exact List.mem_of_getElem? (i := 193) (by decide +kernel)
  · intro k h1 h2
    rcases (by omega : k = 103 ∨ k = 104 ∨ k = 105) with rfl | rfl | rfl
    · exact List.mem_of_getElem? (i := 276) (by decide +kernel)
    · exact List.mem_of_getElem? (i := 398) (by decide +kernel)
    · exact List.mem_of_getElem? (i := 196) (by decide +kernel)
  · intro c hc
    match c, hc with
    | 0, _ => exact ⟨List.mem_of_getElem? (i := 374) (by decide +kernel), List.mem_of_getElem? (i := 115) (by decide +kernel), by decide +kernel⟩
    | 1, _ => exact ⟨List.mem_of_getElem? (i := 488) (by decide +kernel), List.mem_of_getElem? (i := 119) (by decide +kernel), by decide +kernel⟩
    | 2, _ => exact ⟨List.mem_of_getElem? (i := 322) (by decide +kernel), List.mem_of_getElem? (i := 113) (by decide +kernel), by decide +kernel⟩
    | 3, _ => exact ⟨List.mem_of_getElem? (i := 352) (by decide +kernel), List.mem_of_getElem? (i := 114) (by decide +kernel), by decide +kernel⟩
    | 4, _ => exact ⟨List.mem_of_getElem? (i := 197) (by decide +kernel), List.mem_of_getElem? (i := 111) (by decide +kernel), by decide +kernel⟩
    | 5, _ => exact ⟨List.mem_of_getElem? (i := 278) (by decide +kernel), List.mem_of_getElem? (i := 112) (by decide +kernel), by decide +kernel⟩
    | 6, _ => exact ⟨List.mem_of_getElem? (i := 133) (by decide +kernel), List.mem_of_getElem? (i := 109) (by decide +kernel), by decide +kernel⟩
    | 7, _ => exact ⟨List.mem_of_getElem? (i := 429) (by decide +kernel), List.mem_of_getElem? (i := 117) (by decide +kernel), by decide +kernel⟩
    | 8, _ => exact ⟨List.mem_of_getElem? (i := 139) (by decide +kernel), List.mem_of_getElem? (i := 110) (by decide +kernel), by decide +kernel⟩
    | 9, _ => exact ⟨List.mem_of_getElem? (i := 454) (by decide +kernel), List.mem_of_getElem? (i := 118) (by decide +kernel), by decide +kernel⟩
    | 10, _ => exact ⟨List.mem_of_getElem? (i := 400) (by decide +kernel), List.mem_of_getElem? (i := 116) (by decide +kernel), by decide +kernel⟩
    | 11, _ => exact ⟨List.mem_of_getElem? (i := 125) (by decide +kernel), List.mem_of_getElem? (i := 108) (by decide +kernel), by decide +kernel⟩
    | 12, _ => exact ⟨List.mem_of_getElem? (i := 1250) (by decide +kernel), List.mem_of_getElem? (i := 120) (by decide +kernel), by decide +kernel⟩
  · exact List.mem_of_getElem? (i := 130) (by decide +kernel)
  · exact List.mem_of_getElem? (i := 131) (by decide +kernel)
  · exact List.mem_of_getElem? (i := 121) (by decide +kernel)
  · exact List.mem_of_getElem? (i := 826) (by decide +kernel)
  · exact List.mem_of_getElem? (i := 827) (by decide +kernel)
  · exact List.mem_of_getElem? (i := 654) (by decide +kernel)
  · exact List.mem_of_getElem? (i := 655) (by decide +kernel)
  · exact List.mem_of_getElem? (i := 1102) (by decide +kernel)
  · exact List.mem_of_getElem? (i := 1103) (by decide +kernel)
theorem pm_arr {s : State} {args : Array Value} {ty : FieldType} (hp : pm_ref ty = false) (h : (Cond.arrayClass ty).before args s = true) : ∃ cA, ArrOfT s cA ty ∧ va_RA s cA ty := by
  obtain ⟨cA, kA, comp, hfind, hk, hkind⟩ := Cond.arrayClass_spec h
  refine ⟨cA, fun n z => ⟨fun k h => (by cases h), kA, hk, comp, hkind⟩, ?_⟩
  cases ty <;> first | exact hfind | simp [pm_ref] at hp
theorem pm_arrO {s : State} {args : Array Value} {C : String} (h : (Cond.arrayOver (.object C)).before args s = true) : ∃ cA, ArrOfT s cA (.object C) ∧ va_RA s cA (.object C) := by
  obtain ⟨comp, cA, k, h1, h2, h3, h4, h5⟩ := Cond.arrayOver_spec h
  exact ⟨cA, fun n z => ⟨fun k h => (by cases h), k, h3, comp, h4⟩, k, comp, h3, h4, h1, h5⟩
set_option maxHeartbeats 4000000 in
set_option maxRecDepth 100000 in
/-- the law's walk, out of the pure machine's -/
theorem pm_start (hpure : ∀ (L : Nat) (xs : Nat → Int32), L ≤ 3072 → pm_W pm_md pm_ft pm_nf pm_code 1000 267 0 [(2, 0), (9, 0), (9, 0), (9, 0)] [] (pm_M0 L xs) 600000 7302250 (fun r _ => r = some (0, 1)))
    {p : Program} {e : Env} {s : State} {m : MethodId} {below : List Frame} {meth : Method} {c : Code} (l : Launch) {b L : Nat} {xs : Nat → Int32} (hL : L ≤ 3072) (C0 : lw_At p s m meth c b L xs) : W p l e room_1 s m #[Value.ref b] below meth c s.heap [] 0 0 (lw_Z below #[Value.ref b] s) (entryFrame m ([Value.ref b] : List Value).toArray 4) := by
  obtain ⟨hx, hb, hr, hml, hown, htsA, hX, hbl, hlocks, hgv⟩ := C0
  have hts : ∀ w ∈ lw_us, w.before #[Value.ref b] s = true := fun w hw => htsA w (List.mem_filter.mp hw).1
  have hw := pm_words_ok
  have hcl : ∀ k : Nat, ∃ (cC : ClassId) (iS : Nat → Nat), k < 13 → u_Kn s (pm_CC k).1 (pm_CC k).2.1 (pm_CC k).2.2 cC iS := by
    intro k
    by_cases hk : k < 13
    · obtain ⟨cC, iS, h⟩ := u_known hts (pm_clsU hk) (hts _ (pm_us (hw.2.2.1 k hk).1 rfl))
      exact ⟨cC, iS, fun _ => h⟩
    · exact ⟨0, fun _ => 0, fun h => absurd h hk⟩
  obtain ⟨dC, hdC⟩ : ∃ dC : Nat → ClassId, ∀ k, ∃ iS : Nat → Nat, k < 13 → u_Kn s (pm_CC k).1 (pm_CC k).2.1 (pm_CC k).2.2 (dC k) iS := ⟨fun k => (hcl k).choose, fun k => (hcl k).choose_spec⟩
  obtain ⟨dI, hdI⟩ : ∃ dI : Nat → Nat → Nat, ∀ k, k < 13 → u_Kn s (pm_CC k).1 (pm_CC k).2.1 (pm_CC k).2.2 (dC k) (dI k) := ⟨fun k => (hdC k).choose, fun k => (hdC k).choose_spec⟩
  obtain ⟨a0, h0⟩ := pm_arr (ty := .int) rfl (hts _ (pm_us hw.1.1 rfl))
  obtain ⟨a1, h1⟩ := pm_arr (ty := .long) rfl (hts _ (pm_us hw.1.2.1 rfl))
  obtain ⟨a2, h2⟩ := pm_arr (ty := .byte) rfl (hts _ (pm_us hw.1.2.2 rfl))
  obtain ⟨a3, h3⟩ := pm_arrO (hts _ (pm_us (hw.2.1 103 (by omega) (by omega)) rfl))
  obtain ⟨a4, h4⟩ := pm_arrO (hts _ (pm_us (hw.2.1 104 (by omega) (by omega)) rfl))
  obtain ⟨a5, h5⟩ := pm_arrO (hts _ (pm_us (hw.2.1 105 (by omega) (by omega)) rfl))
  let dA : Nat → ClassId := fun k => if k = 100 then a0 else if k = 101 then a1 else if k = 102 then a2 else if k = 103 then a3 else if k = 104 then a4 else a5
  have hK : va_K (dC, dI) vwCl (pm_tys dA) s := by
    refine ⟨fun k q hq => ?_, fun k q hq => ?_⟩
    · have hk : k < 13 := (List.getElem?_eq_some_iff.mp hq).1
      have := pm_CC_at hk
      cases hq.symm.trans this
      exact hdI k hk
    · match k, hq with
      | 0, hq => cases hq; exact h0
      | 1, hq => cases hq; exact h1
      | 2, hq => cases hq; exact h2
      | 3, hq => cases hq; exact h3
      | 4, hq => cases hq; exact h4
      | 5, hq => cases hq; exact h5
      | k + 6, hq => simp [pm_tys] at hq
  have hsz : s.heap.size = (s.heap.size - 1) + 1 := by omega
  have hsnd := pm_sound (md := pm_md) (code := pm_code) (pl := pm_pl) (l := l) (D := (dC, dI)) (dA := dA) (b := b) (B := s.heap.size - 1) (L := L) (xs := xs) (fun y h => pm_ok_ins h) (fun y h => pm_ok_m h) hw (by omega)
  have hgo := hpure L xs hL _ hsnd
  have hl := pm_L.entry b (s.heap.size - 1) [(2, 0)] (n := 4) (by decide)
  rw [lg_entry_eq]
  refine hgo p e room_1 s m #[Value.ref b] below meth c (lw_Z below #[Value.ref b] s) 600000 7302250 (by omega) hx hb hml hown (fun h => absurd h (by decide)) hts hK hX (by omega) (by omega) (Nat.le_of_ble_eq_true rfl) (Nat.le_of_ble_eq_true rfl) (Nat.le_refl _) (Nat.le_refl _) ?_ s.heap [] 0 0 _ ?_ va_S.rf hl (Nat.le_refl _) (Nat.le_refl _)
  · intro r M' hQ H locs cells slots pc lv i hR hS hc hs hdec hrt
    subst hQ
    have hi : i = .ireturn := by
      rcases hrt with ⟨-, h, -⟩ | ⟨-, h, -⟩ | ⟨q, -, -⟩ | ⟨⟨n, q⟩, -, -⟩ | ⟨q, -, -⟩
      · exact h
      · exact h
      · cases q
      · cases q
      · cases q
    subst hi
    refine va_forget (fun q hq => ?_) ?_
    · have := hS.2.2 q hq
      have h9 : s.heap.size - 1 < q.base := this
      omega
    · refine W.widen hc hs ?_
      exact lw_ret hx hb hr hlocks hdec
  · refine ⟨hsz, Nat.le_refl 1, by omega, rfl, fun a ha => ?_, fun a h0 ha => ?_⟩
    · have ha : a < 1 := ha
      have : a = 0 := by omega
      subst this
      show L < _
      omega
    · have ha : a < 1 := ha
      omega
