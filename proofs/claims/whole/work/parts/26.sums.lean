/-! ===== sums, and what the counts come to ===== -/
def sm (f : Nat → Nat) : Nat → Nat
  | 0 => 0
  | n + 1 => sm f n + f n
theorem sm_congr {f g : Nat → Nat} : ∀ {n : Nat}, (∀ i, i < n → f i = g i) → sm f n = sm g n
  | 0, _ => rfl
  | n + 1, h => by show sm f n + f n = sm g n + g n; rw [sm_congr (fun i hi => h i (by omega)), h n (by omega)]
theorem sm_add (f g : Nat → Nat) : ∀ n, sm (fun i => f i + g i) n = sm f n + sm g n
  | 0 => rfl
  | n + 1 => by show sm (fun i => f i + g i) n + (f n + g n) = sm f n + f n + (sm g n + g n); rw [sm_add f g n]; omega
theorem sm_mul (k : Nat) (f : Nat → Nat) : ∀ n, sm (fun i => k * f i) n = k * sm f n
  | 0 => rfl
  | n + 1 => by show sm (fun i => k * f i) n + k * f n = k * (sm f n + f n); rw [sm_mul k f n, Nat.mul_add]
theorem sm_mulr (k : Nat) (f : Nat → Nat) (n : Nat) : sm (fun i => f i * k) n = sm f n * k := by
  rw [Nat.mul_comm, ← sm_mul]; exact sm_congr (fun i _ => Nat.mul_comm _ _)
theorem sm_zero : ∀ n, sm (fun _ => 0) n = 0
  | 0 => rfl
  | n + 1 => sm_zero n
theorem sm_le {f g : Nat → Nat} : ∀ {n : Nat}, (∀ i, i < n → f i ≤ g i) → sm f n ≤ sm g n
  | 0, _ => Nat.le_refl _
  | n + 1, h => Nat.add_le_add (sm_le (fun i hi => h i (by omega))) (h n (by omega))
/-- nothing more behind n -/
theorem sm_cut {f : Nat → Nat} {n : Nat} : ∀ {m : Nat}, n ≤ m → (∀ i, n ≤ i → i < m → f i = 0) → sm f m = sm f n
  | 0, h, _ => by rw [show n = 0 by omega]
  | m + 1, h, hz => by
    by_cases he : n = m + 1
    · rw [he]
    · show sm f m + f m = sm f n
      rw [hz m (by omega) (by omega), sm_cut (by omega) (fun i h1 h2 => hz i h1 (by omega))]; rfl
theorem pop_sm (s : Nat) : pop s = sm (bt s) 12 := pop_bt s
theorem bt_hi {s n k : Nat} (hs : s < 2 ^ n) (hk : n ≤ k) : bt s k = 0 := by
  unfold bt
  rw [if_neg]
  rw [Nat.testBit_lt_two_pow (Nat.lt_of_lt_of_le hs (Nat.pow_le_pow_right (by omega) hk))]
  decide
theorem pop_cut {s n : Nat} (hn : n ≤ 12) (hs : s < 2 ^ n) : pop s = sm (bt s) n := by
  rw [pop_sm]; exact sm_cut hn (fun i h1 _ => bt_hi hs h1)
theorem pop_lt64 {s : Nat} (hs : s < 64) : pop s ≤ 6 := by
  rw [pop_cut (n := 6) (by omega) hs]
  have : sm (bt s) 6 ≤ sm (fun _ => 1) 6 := sm_le (fun i _ => by unfold bt; split <;> omega)
  exact this
/-- a cell of an area that has a value; that has one at all; that has another -/
def dv (T : Tab) (rs cs v r c : Nat) : Nat := if rs.testBit r && cs.testBit c && tX T (6 * r + c) == v then 1 else 0
def da (T : Tab) (rs cs r c : Nat) : Nat := if rs.testBit r && cs.testBit c && tX T (6 * r + c) != 10 then 1 else 0
def du (T : Tab) (rs cs v r c : Nat) : Nat := if rs.testBit r && cs.testBit c && (tX T (6 * r + c) != v && tX T (6 * r + c) != 10) then 1 else 0
def nV (T : Tab) (rs cs v : Nat) : Nat := sm (fun r => sm (dv T rs cs v r) (tC T)) (tR T)
def nA (T : Tab) (rs cs : Nat) : Nat := sm (fun r => sm (da T rs cs r) (tC T)) (tR T)
def nU (T : Tab) (rs cs v : Nat) : Nat := sm (fun r => sm (du T rs cs v r) (tC T)) (tR T)
theorem cRow_sm (T : Tab) (rs cs v r a : Nat) : ∀ n, cRow T rs cs v r a n = a + sm (dv T rs cs v r) n
  | 0 => rfl
  | n + 1 => by
    rw [cRow_s]
    show _ = a + (sm (dv T rs cs v r) n + dv T rs cs v r n)
    rw [cRow_sm T rs cs v r a n]
    unfold dv
    split <;> omega
theorem cAll_sm (T : Tab) (rs cs v : Nat) : ∀ n, cAll T rs cs v n = sm (fun r => sm (dv T rs cs v r) (tC T)) n
  | 0 => rfl
  | n + 1 => by rw [cAll_s, cRow_sm, cAll_sm T rs cs v n]; rfl
theorem cIn_nV (T : Tab) (rs cs v : Nat) : cIn T rs cs v = nV T rs cs v := cAll_sm T rs cs v _
theorem oRow_bit (T : Tab) (r v : Nat) : ∀ n c, (oRow T r v n).testBit c = (decide (c < n) && (tX T (6 * r + c) == v))
  | 0, c => by show (0 : Nat).testBit c = _; simp
  | n + 1, c => by
    rw [oRow_s]
    by_cases h : tX T (6 * r + n) = v
    · rw [if_pos (by simp [h]), Nat.testBit_or, oRow_bit T r v n c, Nat.testBit_two_pow]
      by_cases hc : n = c
      · subst hc; simp [h]
      · by_cases h2 : c < n
        · simp [h2, show c < n + 1 by omega, hc]
        · simp [h2, show ¬ c < n + 1 by omega, hc]
    · rw [if_neg (by simp [h]), oRow_bit T r v n c]
      by_cases hc : n = c
      · subst hc; simp [h]
      · by_cases h2 : c < n
        · simp [h2, show c < n + 1 by omega]
        · simp [h2, show ¬ c < n + 1 by omega]
theorem ones_bit {n k : Nat} : (2 ^ n - 1).testBit k = decide (k < n) := Nat.testBit_two_pow_sub_one n k
theorem uRow_bit {T : Tab} (hT : TabOK T) (r v : Nat) {c : Nat} (hc : c < 6) : (uRow T r v).testBit c = (decide (c < tC T) && (tX T (6 * r + c) != v && tX T (6 * r + c) != 10)) := by
  have h1 := tC_64 hT
  have h2 := oRow_64 hT r v (Nat.le_refl _)
  have h3 := oRow_64 hT r 10 (Nat.le_refl _)
  unfold uRow
  rw [sDif_bit (Nat.lt_of_le_of_lt (sDif_le _ _) h1) h3 hc, sDif_bit h1 h2 hc, ones_bit, oRow_bit, oRow_bit]
  by_cases h : c < tC T <;> simp [h, bne]
theorem uIn_sm (T : Tab) (rs cs v : Nat) : ∀ n, uIn T rs cs v n = sm (fun r => if rs.testBit r then pop (uRow T r v &&& cs) else 0) n
  | 0 => rfl
  | n + 1 => by
    rw [uIn_s]
    show _ = sm (fun r => if rs.testBit r then pop (uRow T r v &&& cs) else 0) n + (if rs.testBit n then pop (uRow T n v &&& cs) else 0)
    rw [uIn_sm T rs cs v n]
    split <;> omega
theorem uIn_nU {T : Tab} (hT : TabOK T) {rs cs v : Nat} (hcs : cs < 64) : uIn T rs cs v (tR T) = nU T rs cs v := by
  rw [uIn_sm]
  refine sm_congr (fun r _ => ?_)
  have hu := uRow_64 hT r v
  by_cases hr : rs.testBit r = true
  · rw [if_pos hr, pop_cut (n := 6) (by omega) (Nat.lt_of_le_of_lt Nat.and_le_left hu)]
    rw [sm_cut (n := tC T) hT.2.1.2 (fun i h1 h2 => ?_)]
    · refine sm_congr (fun c hc => ?_)
      unfold bt du
      rw [Nat.testBit_and, uRow_bit hT r v (by have := hT.2.1; omega)]
      by_cases h : cs.testBit c = true <;> simp [hr, h, hc]
    · unfold bt
      rw [Nat.testBit_and, uRow_bit hT r v h2]
      simp [show ¬ i < tC T by omega]
  · rw [if_neg hr]
    rw [← sm_zero (tC T)]
    refine sm_congr (fun c _ => ?_)
    unfold du
    simp [hr]
theorem nU_10 (T : Tab) (rs cs : Nat) : nU T rs cs 10 = nA T rs cs := by
  refine sm_congr (fun r _ => sm_congr (fun c _ => ?_))
  unfold du da
  rw [Bool.and_self]
/-- all cells of an area: asked ones and free ones -/
theorem pop_area {T : Tab} (hT : TabOK T) {rs cs : Nat} (hrs : rs < 2 ^ tR T) (hcs : cs < 2 ^ tC T) : pop rs * pop cs = nA T rs cs + nV T rs cs 10 := by
  rw [pop_cut (n := tR T) (by have := hT.1; omega) hrs, pop_cut (n := tC T) (by have := hT.2.1; omega) hcs, ← sm_mulr]
  unfold nA nV
  rw [← sm_add]
  refine sm_congr (fun r _ => ?_)
  rw [← sm_mul, ← sm_add]
  refine sm_congr (fun c _ => ?_)
  unfold bt da dv
  by_cases h1 : rs.testBit r = true <;> by_cases h2 : cs.testBit c = true <;> by_cases h3 : tX T (6 * r + c) = 10 <;> simp [h1, h2, h3]
theorem asked_eq {T : Tab} (hT : TabOK T) {rs cs : Nat} (hrs : rs < 2 ^ tR T) (hcs : cs < 2 ^ tC T) : (pop rs : Int) * (pop cs : Int) - (cIn T rs cs 10 : Int) = (nA T rs cs : Int) := by
  have h := pop_area hT hrs hcs
  rw [cIn_nV, ← Int.natCast_mul, h]
  omega
theorem lt_64_of {n s : Nat} (hn : n ≤ 6) (hs : s < 2 ^ n) : s < 64 := Nat.lt_of_lt_of_le hs (Nat.pow_le_pow_right (by omega) hn : 2 ^ n ≤ 2 ^ 6)
