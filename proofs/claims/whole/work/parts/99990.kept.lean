/-! ===== a tree of a text, as mathematics; kept words, by the class ===== -/
theorem c_Reader_isKept {d mc ms : Nat} {M : pm_M} (lay : Lay M) {v : Nat} (hv : v < 1073741824) :
    pm_E d 68 [(0, (v : Int))] M mc ms (fun ρ M' => ρ = some (0, if v = 1 ∨ v = 2 ∨ v = 70517 ∨ v = 406922 ∨ v = 239874 then 1 else 0) ∧ M' = M) := by
  show Wp d 68 0 [(0, (v : Int))] [] M mc ms _
  refine g_iload_n lk_68_0 rfl ?_
  refine g_iconst lk_68_1 ?_
  refine g_icmp (t := 28) lk_68_2 rfl (by first | (unfold pm_inI; omega) | exact pm_and_in _ _ | exact pm_shr_in _ _ | exact pm_or_in _ _ | exact pm_xor_in _ _ | exact pm_shl_in _ _ | exact pm_cmp_in _ _ | exact pm_b8_in _ | (unfold pm_inI; split <;> omega)) (by first | (unfold pm_inI; omega) | exact pm_and_in _ _ | exact pm_shr_in _ _ | exact pm_or_in _ _ | exact pm_xor_in _ _ | exact pm_shl_in _ _ | exact pm_cmp_in _ _ | exact pm_b8_in _ | (unfold pm_inI; split <;> omega)) (fun h1 => ?_) (fun h1 => ?_)
  · replace h1 : (v : Int) = 1 := h1
    refine g_iconst lk_68_28 ?_
    refine g_goto (t := 33) lk_68_29 rfl ?_
    refine g_ireturn lk_68_33 (fun _ => by omega) ?_
    first | exact ⟨by rw [if_pos (by omega)], rfl⟩ | exact ⟨by rw [if_neg (by omega)], rfl⟩
  · replace h1 : ¬ ((v : Int) = 1) := h1
    refine g_iload_n lk_68_5 rfl ?_
    refine g_iconst lk_68_6 ?_
    refine g_icmp (t := 28) lk_68_7 rfl (by first | (unfold pm_inI; omega) | exact pm_and_in _ _ | exact pm_shr_in _ _ | exact pm_or_in _ _ | exact pm_xor_in _ _ | exact pm_shl_in _ _ | exact pm_cmp_in _ _ | exact pm_b8_in _ | (unfold pm_inI; split <;> omega)) (by first | (unfold pm_inI; omega) | exact pm_and_in _ _ | exact pm_shr_in _ _ | exact pm_or_in _ _ | exact pm_xor_in _ _ | exact pm_shl_in _ _ | exact pm_cmp_in _ _ | exact pm_b8_in _ | (unfold pm_inI; split <;> omega)) (fun h2 => ?_) (fun h2 => ?_)
    · replace h2 : (v : Int) = 2 := h2
      refine g_iconst lk_68_28 ?_
      refine g_goto (t := 33) lk_68_29 rfl ?_
      refine g_ireturn lk_68_33 (fun _ => by omega) ?_
      first | exact ⟨by rw [if_pos (by omega)], rfl⟩ | exact ⟨by rw [if_neg (by omega)], rfl⟩
    · replace h2 : ¬ ((v : Int) = 2) := h2
      refine g_iload_n lk_68_10 rfl ?_
      refine g_ldc lk_68_11 ?_
      refine g_icmp (t := 28) lk_68_13 rfl (by first | (unfold pm_inI; omega) | exact pm_and_in _ _ | exact pm_shr_in _ _ | exact pm_or_in _ _ | exact pm_xor_in _ _ | exact pm_shl_in _ _ | exact pm_cmp_in _ _ | exact pm_b8_in _ | (unfold pm_inI; split <;> omega)) (by first | (unfold pm_inI; omega) | exact pm_and_in _ _ | exact pm_shr_in _ _ | exact pm_or_in _ _ | exact pm_xor_in _ _ | exact pm_shl_in _ _ | exact pm_cmp_in _ _ | exact pm_b8_in _ | (unfold pm_inI; split <;> omega)) (fun h3 => ?_) (fun h3 => ?_)
      · replace h3 : (v : Int) = 70517 := h3
        refine g_iconst lk_68_28 ?_
        refine g_goto (t := 33) lk_68_29 rfl ?_
        refine g_ireturn lk_68_33 (fun _ => by omega) ?_
        first | exact ⟨by rw [if_pos (by omega)], rfl⟩ | exact ⟨by rw [if_neg (by omega)], rfl⟩
      · replace h3 : ¬ ((v : Int) = 70517) := h3
        refine g_iload_n lk_68_16 rfl ?_
        refine g_ldc lk_68_17 ?_
        refine g_icmp (t := 28) lk_68_19 rfl (by first | (unfold pm_inI; omega) | exact pm_and_in _ _ | exact pm_shr_in _ _ | exact pm_or_in _ _ | exact pm_xor_in _ _ | exact pm_shl_in _ _ | exact pm_cmp_in _ _ | exact pm_b8_in _ | (unfold pm_inI; split <;> omega)) (by first | (unfold pm_inI; omega) | exact pm_and_in _ _ | exact pm_shr_in _ _ | exact pm_or_in _ _ | exact pm_xor_in _ _ | exact pm_shl_in _ _ | exact pm_cmp_in _ _ | exact pm_b8_in _ | (unfold pm_inI; split <;> omega)) (fun h4 => ?_) (fun h4 => ?_)
        · replace h4 : (v : Int) = 406922 := h4
          refine g_iconst lk_68_28 ?_
          refine g_goto (t := 33) lk_68_29 rfl ?_
          refine g_ireturn lk_68_33 (fun _ => by omega) ?_
          first | exact ⟨by rw [if_pos (by omega)], rfl⟩ | exact ⟨by rw [if_neg (by omega)], rfl⟩
        · replace h4 : ¬ ((v : Int) = 406922) := h4
          refine g_iload_n lk_68_22 rfl ?_
          refine g_ldc lk_68_23 ?_
          refine g_icmp (t := 32) lk_68_25 rfl (by first | (unfold pm_inI; omega) | exact pm_and_in _ _ | exact pm_shr_in _ _ | exact pm_or_in _ _ | exact pm_xor_in _ _ | exact pm_shl_in _ _ | exact pm_cmp_in _ _ | exact pm_b8_in _ | (unfold pm_inI; split <;> omega)) (by first | (unfold pm_inI; omega) | exact pm_and_in _ _ | exact pm_shr_in _ _ | exact pm_or_in _ _ | exact pm_xor_in _ _ | exact pm_shl_in _ _ | exact pm_cmp_in _ _ | exact pm_b8_in _ | (unfold pm_inI; split <;> omega)) (fun h5 => ?_) (fun h5 => ?_)
          · replace h5 : ¬ (v : Int) = 239874 := h5
            refine g_iconst lk_68_32 ?_
            refine g_ireturn lk_68_33 (fun _ => by omega) ?_
            first | exact ⟨by rw [if_pos (by omega)], rfl⟩ | exact ⟨by rw [if_neg (by omega)], rfl⟩
          · replace h5 : ¬ (¬ (v : Int) = 239874) := h5
            refine g_iconst lk_68_28 ?_
            refine g_goto (t := 33) lk_68_29 rfl ?_
            refine g_ireturn lk_68_33 (fun _ => by omega) ?_
            first | exact ⟨by rw [if_pos (by omega)], rfl⟩ | exact ⟨by rw [if_neg (by omega)], rfl⟩
theorem kept_nm {ch : Nat → Nat} {n : Nat} {t : Tok} (hK : TkOK ch n t) (h1 : t.1 = 1) : (nr 27 (twd ch t) = 1 ∨ nr 27 (twd ch t) = 2 ∨ nr 27 (twd ch t) = 70517 ∨ nr 27 (twd ch t) = 406922 ∨ nr 27 (twd ch t) = 239874) ↔ ¬ isNm ch t := by
  obtain ⟨w1, w2, w3, w4, w5⟩ := w27_con (hK.lt h1)
  constructor
  · rintro h ⟨_, b, c, e⟩
    rcases h with h | h | h | h | h
    · exact b (Or.inr (Or.inl (w1.mp (by omega))))
    · exact b (Or.inr (Or.inr (w2.mp (by omega))))
    · exact c (w3.mp (by omega))
    · exact e (w4.mp (by omega))
    · exact b (Or.inl (w5.mp (by omega)))
  · intro h
    by_cases a1 : twd ch t = wdA
    · have := w1.mpr a1; omega
    · by_cases a2 : twd ch t = wdB
      · have := w2.mpr a2; omega
      · by_cases a3 : twd ch t = wCost
        · have := w3.mpr a3; omega
        · by_cases a4 : twd ch t = wTree
          · have := w4.mpr a4; omega
          · by_cases a5 : twd ch t = wLeaf
            · have := w5.mpr a5; omega
            · refine absurd ⟨h1, ?_, a3, a4⟩ h
              rintro (g | g | g)
              · exact a5 g
              · exact a1 g
              · exact a2 g
/-- a tree with its name -/
abbrev Nt : Type := List Nat × List Ne
def pTree (ch : Nat → Nat) (n R C : Nat) (Ts : List Nt) (t : Tok) : Sum (Nat × Nat) (Nt × Tok) :=
  if 4 ≤ Ts.length then .inl (flt 5 t)
  else if isNm ch (lxt ch n t.2.2) then
    (if twd ch (lxt ch n t.2.2) ∈ Ts.map (fun x => x.1) then .inl (flt 3 (lxt ch n t.2.2))
    else (match pN ch n R C 10 0 0 0 (lxt ch n (lxt ch n t.2.2).2.2) with
      | .inl e => .inl e
      | .inr (L, t1) => (match pStop ch n t1 with
        | .inl e => .inl e
        | .inr t' => .inr ((twd ch (lxt ch n t.2.2), L), t'))))
  else .inl (flt 2 (lxt ch n t.2.2))
theorem pTree_5 {ch : Nat → Nat} {n R C : Nat} {Ts : List Nt} {t : Tok} (h : 4 ≤ Ts.length) : pTree ch n R C Ts t = .inl (flt 5 t) := by
  unfold pTree
  rw [if_pos h]
theorem pTree_2 {ch : Nat → Nat} {n R C : Nat} {Ts : List Nt} {t : Tok} (h : ¬ 4 ≤ Ts.length) (k : ¬ isNm ch (lxt ch n t.2.2)) : pTree ch n R C Ts t = .inl (flt 2 (lxt ch n t.2.2)) := by
  unfold pTree
  rw [if_neg h, if_neg k]
theorem pTree_3 {ch : Nat → Nat} {n R C : Nat} {Ts : List Nt} {t : Tok} (h : ¬ 4 ≤ Ts.length) (k : isNm ch (lxt ch n t.2.2)) (l : twd ch (lxt ch n t.2.2) ∈ Ts.map (fun x => x.1)) : pTree ch n R C Ts t = .inl (flt 3 (lxt ch n t.2.2)) := by
  unfold pTree
  rw [if_neg h, if_pos k, if_pos l]
theorem pTree_n {ch : Nat → Nat} {n R C : Nat} {Ts : List Nt} {t : Tok} (h : ¬ 4 ≤ Ts.length) (k : isNm ch (lxt ch n t.2.2)) (l : ¬ twd ch (lxt ch n t.2.2) ∈ Ts.map (fun x => x.1)) {e : Nat × Nat} (k1 : pN ch n R C 10 0 0 0 (lxt ch n (lxt ch n t.2.2).2.2) = .inl e) : pTree ch n R C Ts t = .inl e := by
  unfold pTree
  rw [if_neg h, if_pos k, if_neg l, k1]
theorem pTree_s {ch : Nat → Nat} {n R C : Nat} {Ts : List Nt} {t t1 : Tok} {L : List Ne} (h : ¬ 4 ≤ Ts.length) (k : isNm ch (lxt ch n t.2.2)) (l : ¬ twd ch (lxt ch n t.2.2) ∈ Ts.map (fun x => x.1)) {e : Nat × Nat} (k1 : pN ch n R C 10 0 0 0 (lxt ch n (lxt ch n t.2.2).2.2) = .inr (L, t1)) (k2 : pStop ch n t1 = .inl e) : pTree ch n R C Ts t = .inl e := by
  unfold pTree
  rw [if_neg h, if_pos k, if_neg l, k1]
  show (match pStop ch n t1 with | .inl e => _ | .inr t' => _) = _
  rw [k2]
theorem pTree_ok {ch : Nat → Nat} {n R C : Nat} {Ts : List Nt} {t t1 t' : Tok} {L : List Ne} (h : ¬ 4 ≤ Ts.length) (k : isNm ch (lxt ch n t.2.2)) (l : ¬ twd ch (lxt ch n t.2.2) ∈ Ts.map (fun x => x.1)) (k1 : pN ch n R C 10 0 0 0 (lxt ch n (lxt ch n t.2.2).2.2) = .inr (L, t1)) (k2 : pStop ch n t1 = .inr t') : pTree ch n R C Ts t = .inr ((twd ch (lxt ch n t.2.2), L), t') := by
  unfold pTree
  rw [if_neg h, if_pos k, if_neg l, k1]
  show (match pStop ch n t1 with | .inl e => _ | .inr t' => _) = _
  rw [k2]
def pLs (ch : Nat → Nat) (n : Nat) : Nat → Tab → Nat → List Nt → Tok → Sum (Nat × Nat) (Tab × List Nt)
  | 0, T, _, Ts, _ => .inr (T, Ts)
  | f + 1, T, w, Ts, t =>
    if t.1 = 0 then .inr (T, Ts)
    else if t.1 = 1 ∧ twd ch t = wTree then
      (match pTree ch n (tR T) (tC T) Ts t with
      | .inl e => .inl e
      | .inr (x, t') => pLs ch n f T w (Ts ++ [x]) t')
    else
      (match pCost ch n T w t with
      | .inl e => .inl e
      | .inr (T', t') => pLs ch n f T' 1 Ts t')
/-- a whole text: a fault, or the table and the trees that it tells -/
def pAll (ch : Nat → Nat) (n : Nat) : Sum (Nat × Nat) (Tab × List Nt) := match pRows ch n (lxt ch n 0) with
  | .inl e => .inl e
  | .inr (T, t) => pLs ch n 500 T 0 [] t
/-- the trees in the reader -/
def TrsX (M : pm_M) (Ts : List Nt) : Prop := pm_ct M 2 5 = (Ts.length : Int) ∧ ∀ (i : Nat) (x : Nt), Ts[i]? = some x → pm_ct M 7 i = ((nr 27 x.1 : Nat) : Int) ∧ LtOK x.1 ∧ pm_ct M (8 + 4 * i) 3 = (x.2.length : Int) ∧ SgAt M (8 + 4 * i) 0 (x.2.map (fun y => y.1))
