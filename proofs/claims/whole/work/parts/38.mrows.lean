-- ===== rows and texts of the model =====
def MR (μ : ps_M) (m k : Nat) (n : Int32) : ps_M := ps_wI μ (fun a i => if a = m + 4 ∧ 40 * k ≤ i ∧ i < 40 * k + 40 then 0 else if a = m + 3 ∧ i = k then n else ps_i μ a i)
def MRi (μ : ps_M) (m k : Nat) (n : Int32) (c : Nat) : ps_M := ps_wI μ (fun a i => if a = m + 4 ∧ 40 * k ≤ i ∧ i < 40 * k + c then 0 else if a = m + 3 ∧ i = k then n else ps_i μ a i)
def MT (μ : ps_M) (m k : Nat) (n : Int32) : ps_M := ps_wI μ (fun a i => if a = m + 6 ∧ 60 * k ≤ i ∧ i < 60 * k + 60 then 32 else if a = m + 5 ∧ i = k then n else ps_i μ a i)
def MTi (μ : ps_M) (m k : Nat) (n : Int32) (c : Nat) : ps_M := ps_wI μ (fun a i => if a = m + 6 ∧ 60 * k ≤ i ∧ i < 60 * k + c then 32 else if a = m + 5 ∧ i = k then n else ps_i μ a i)
theorem MRi_0 {μ : ps_M} {m k : Nat} {n : Int32} : ps_sI μ (m + 3) k n = MRi μ m k n 0 := by
  refine ps_M_ext rfl rfl rfl ?_ rfl rfl
  funext a i
  show ps_up (ps_i μ) (m + 3) k n a i = _
  unfold MRi ps_up
  show _ = (if a = m + 4 ∧ 40 * k ≤ i ∧ i < 40 * k + 0 then (0 : Int32) else if a = m + 3 ∧ i = k then n else ps_i μ a i)
  grind
theorem MRi_s {μ : ps_M} {m k c : Nat} {n : Int32} : ps_sI (MRi μ m k n c) (m + 4) (40 * k + c) 0 = MRi μ m k n (c + 1) := by
  refine ps_M_ext rfl rfl rfl ?_ rfl rfl
  funext a i
  show ps_up (fun a i => if a = m + 4 ∧ 40 * k ≤ i ∧ i < 40 * k + c then 0 else if a = m + 3 ∧ i = k then n else ps_i μ a i) (m + 4) (40 * k + c) 0 a i = (if a = m + 4 ∧ 40 * k ≤ i ∧ i < 40 * k + (c + 1) then (0 : Int32) else if a = m + 3 ∧ i = k then n else ps_i μ a i)
  unfold ps_up
  grind
theorem MTi_0 {μ : ps_M} {m k : Nat} {n : Int32} : ps_sI μ (m + 5) k n = MTi μ m k n 0 := by
  refine ps_M_ext rfl rfl rfl ?_ rfl rfl
  funext a i
  show ps_up (ps_i μ) (m + 5) k n a i = (if a = m + 6 ∧ 60 * k ≤ i ∧ i < 60 * k + 0 then (32 : Int32) else if a = m + 5 ∧ i = k then n else ps_i μ a i)
  unfold ps_up
  grind
theorem MTi_s {μ : ps_M} {m k c : Nat} {n : Int32} : ps_sI (MTi μ m k n c) (m + 6) (60 * k + c) 32 = MTi μ m k n (c + 1) := by
  refine ps_M_ext rfl rfl rfl ?_ rfl rfl
  funext a i
  show ps_up (fun a i => if a = m + 6 ∧ 60 * k ≤ i ∧ i < 60 * k + c then 32 else if a = m + 5 ∧ i = k then n else ps_i μ a i) (m + 6) (60 * k + c) 32 a i = (if a = m + 6 ∧ 60 * k ≤ i ∧ i < 60 * k + (c + 1) then (32 : Int32) else if a = m + 5 ∧ i = k then n else ps_i μ a i)
  unfold ps_up
  grind
/-- a sum of longs -/
def lsum (f : Nat → Int32) : Nat → Int64
  | 0 => 0
  | n + 1 => lsum f n + (f n).toInt64
/-- whether a stretch lies within a size -/
abbrev spanP (i n z : Int32) : Prop := 0 ≤ i.toInt ∧ i.toInt + n.toInt ≤ z.toInt
theorem i32_rng (x : Int32) : -2147483648 ≤ x.toInt ∧ x.toInt < 2147483648 := by
  have h1 := Int32.toInt_lt x
  have h2 := Int32.le_toInt x
  constructor <;> omega
theorem span_l {i n z : Int32} : (¬ i < 0 ∧ ¬ 0 < lg_cmp (i.toInt64 + n.toInt64) z.toInt64) ↔ spanP i n z := by
  have e : (i.toInt64 + n.toInt64).toInt = i.toInt + n.toInt := by
    rw [Int64.toInt_add, Int32.toInt_toInt64, Int32.toInt_toInt64]
    have := i32_rng i
    have := i32_rng n
    exact Int.bmod_eq_of_le (by omega) (by omega)
  rw [lg_cmp_gt, Int64.lt_iff_toInt_lt, e, Int32.toInt_toInt64, Int32.lt_iff_toInt_lt]
  show (¬ i.toInt < 0 ∧ _) ↔ _
  unfold spanP
  omega
section MQ2
variable {L : Nat} {xs : Nat → Int32} {d : Nat} {μ : ps_M} {m : Nat}
theorem mq_makeRow_loop (hm : isMd μ m) {k : Nat} (hk : k < 6) (y : Int32) : ∀ (n i : Nat), i + n = 40 → ps_To (ps_XX L xs) (ps_Ev (ps_XX L xs) (d + 0)) j_X8_makeRow (ps_rt j_X8_makeRow none (MR μ m k y)) (9, [(3, .int (nI i)), (0, .ref m), (1, .int (nI k)), (2, .int y)], [], MRi μ m k y i) := by
  intro n
  induction n with
  | zero =>
    intro i hi
    obtain rfl : i = 40 := by omega
    refine e_2 rfl rfl ?_
    refine e_0 rfl ?_
    rw [show (40 : Int32) = nI 40 from rfl]
    refine e_39 rfl (fun _ => ?_) (fun h1 => absurd (nI_le (Nat.le_refl _) (by omega)) h1)
    exact e_rv rfl (rfl)
  | succ n ih =>
    intro i hi
    refine e_2 rfl rfl ?_
    refine e_0 rfl ?_
    rw [show (40 : Int32) = nI 40 from rfl]
    refine e_39 rfl (fun h1 => absurd h1 (nI_ge (by omega) (by omega))) (fun _ => ?_)
    refine e_4 rfl rfl ?_
    refine e_gr rfl (by first | exact hm.1 | exact hm.2.2.2.2.1 | exact hm.2.2.2.2.2.2.2.2.2.2.2.2.1) rfl (by first | exact hm.1 | exact hm.2.2.2.2.1 | exact hm.2.2.2.2.2.2.2.2.2.2.2.2.1) ?_
    refine e_0 rfl ?_
    refine e_2 rfl rfl ?_
    refine e_11 rfl ?_
    refine e_2 rfl rfl ?_
    refine e_9 rfl ?_
    refine e_0 rfl ?_
    refine e_49 rfl (by first | exact hm.1 | exact hm.2.2.2.2.1 | exact hm.2.2.2.2.2.2.2.2.2.2.2.2.1) (by rw [show (40 : Int32) * nI k + nI i = nI (40 * k + i) from (by rw [← nI_add, ← pk_mul]; rfl)]; exact vp_in_nI (by omega) (by decide)) ?_
    refine e_8 rfl rfl rfl ?_
    refine e_42 rfl ?_
    show ps_To _ _ _ _ (9, [(3, .int (nI i + 1)), (0, .ref m), (1, .int (nI k)), (2, .int y)], [], _)
    rw [nI_1, show (40 : Int32) * nI k + nI i = nI (40 * k + i) from (by rw [← nI_add, ← pk_mul]; rfl), nI_clamp (by omega), MRi_s]
    exact ih (i + 1) (by omega)
theorem mq_makeRow (hm : isMd μ m) {k : Nat} (hk : k < 6) (n : Int32) : ps_Ev (ps_XX L xs) (d + 1) j_X8_makeRow [.ref m, .int (nI k), .int n] μ none (MR μ m k n) := by
  refine ⟨Nat.le_of_ble_eq_true rfl, ?_⟩
  refine e_4 rfl rfl ?_
  refine e_gr rfl hm.1 rfl hm.2.2.2.2.2.2.2.2.2.2.2.1 ?_
  refine e_2 rfl rfl ?_
  refine e_2 rfl rfl ?_
  refine e_49q (i := k) rfl hm.2.2.2.1 (by first | rfl | (simp only [← nI_add, ← pk_mul]; rfl) | (simp only [nI_add, pk_mul, nI_1]; done)) (by omega) (by decide) ?_
  refine e_0 rfl ?_
  refine e_5 rfl rfl ?_
  have h := mq_makeRow_loop (L := L) (xs := xs) (d := d) hm hk n 40 0 (by omega)
  rw [← MRi_0] at h
  exact h
theorem mq_row (hm : isMd μ m) {r : Int32} {k : Nat} (hr : rowP r → r = nI k ∧ k < 6) (n : Int32) : evI (ps_XX L xs) (d + 3) j_X8_row [.ref m, .int r, .int n] μ (if ¬ rowP r ∨ ¬ n ≤ 40 then (-1, μ) else if ¬ 0 ≤ n then (-3, FM μ m 5) else (n, MR μ m k n)) := by
  refine ⟨Nat.le_of_ble_eq_true rfl, ?_⟩
  refine e_2 rfl rfl ?_
  refine e_s1 rfl rfl rfl (Nat.le_of_ble_eq_true rfl) (sm_isRow r) ?_
  refine e_30b rfl (fun h1 => ?_) (fun h1 => ?_)
  · refine e_0 rfl ?_
    exact e_ri rfl rfl (by first | rfl | (simp only [eq_false h1, if_true, if_true, if_false, not_true_eq_false, not_false_eq_true, and_true, true_and, and_false, false_and, or_true, true_or, or_false, false_or, reduceIte]; done) | (simp only [eq_false h1, if_true, if_true, if_false, not_true_eq_false, not_false_eq_true, and_true, true_and, and_false, false_and, or_true, true_or, or_false, false_or, reduceIte]; rfl)) (by first | rfl | (simp only [eq_false h1, if_true, if_true, if_false, not_true_eq_false, not_false_eq_true, and_true, true_and, and_false, false_and, or_true, true_or, or_false, false_or, reduceIte]; done) | (simp only [eq_false h1, if_true, if_true, if_false, not_true_eq_false, not_false_eq_true, and_true, true_and, and_false, false_and, or_true, true_or, or_false, false_or, reduceIte]; rfl))
  · refine e_2 rfl rfl ?_
    refine e_0 rfl ?_
    refine e_41 rfl (fun h2 => ?_) (fun h2 => ?_)
    · refine e_2 rfl rfl ?_
      refine e_33 rfl (fun h3 => ?_) (fun h3 => ?_)
      · obtain ⟨rfl, hk⟩ := hr h1
        refine e_4 rfl rfl ?_
        refine e_2 rfl rfl ?_
        refine e_2 rfl rfl ?_
        refine e_v2v rfl (by first | exact hm.1 | assumption | rfl) rfl (by decide) rfl (Nat.le_of_ble_eq_true rfl) (mq_makeRow hm hk n) ?_
        refine e_2 rfl rfl ?_
        exact e_ri rfl rfl (by first | rfl | (simp only [eq_true h1, eq_true h2, eq_true h3, if_true, if_true, if_false, not_true_eq_false, not_false_eq_true, and_true, true_and, and_false, false_and, or_true, true_or, or_false, false_or, reduceIte]; done) | (simp only [eq_true h1, eq_true h2, eq_true h3, if_true, if_true, if_false, not_true_eq_false, not_false_eq_true, and_true, true_and, and_false, false_and, or_true, true_or, or_false, false_or, reduceIte]; rfl)) (by first | rfl | (simp only [eq_true h1, eq_true h2, eq_true h3, if_true, if_true, if_false, not_true_eq_false, not_false_eq_true, and_true, true_and, and_false, false_and, or_true, true_or, or_false, false_or, reduceIte]; done) | (simp only [eq_true h1, eq_true h2, eq_true h3, if_true, if_true, if_false, not_true_eq_false, not_false_eq_true, and_true, true_and, and_false, false_and, or_true, true_or, or_false, false_or, reduceIte]; rfl))
      · refine e_4 rfl rfl ?_
        refine e_0 rfl ?_
        refine e_v1 rfl (by first | exact hm.1 | assumption | rfl) rfl (by decide) rfl (Nat.le_of_ble_eq_true rfl) (evo (mq_find (by exact hm) (by decide))) ?_
        exact e_ri rfl rfl (by first | rfl | (simp only [eq_true h1, eq_true h2, eq_false h3, if_true, if_true, if_false, not_true_eq_false, not_false_eq_true, and_true, true_and, and_false, false_and, or_true, true_or, or_false, false_or, reduceIte]; done) | (simp only [eq_true h1, eq_true h2, eq_false h3, if_true, if_true, if_false, not_true_eq_false, not_false_eq_true, and_true, true_and, and_false, false_and, or_true, true_or, or_false, false_or, reduceIte]; rfl)) (by first | rfl | (simp only [eq_true h1, eq_true h2, eq_false h3, if_true, if_true, if_false, not_true_eq_false, not_false_eq_true, and_true, true_and, and_false, false_and, or_true, true_or, or_false, false_or, reduceIte]; done) | (simp only [eq_true h1, eq_true h2, eq_false h3, if_true, if_true, if_false, not_true_eq_false, not_false_eq_true, and_true, true_and, and_false, false_and, or_true, true_or, or_false, false_or, reduceIte]; rfl))
    · refine e_0 rfl ?_
      exact e_ri rfl rfl (by first | rfl | (simp only [eq_true h1, eq_false h2, if_true, if_true, if_false, not_true_eq_false, not_false_eq_true, and_true, true_and, and_false, false_and, or_true, true_or, or_false, false_or, reduceIte]; done) | (simp only [eq_true h1, eq_false h2, if_true, if_true, if_false, not_true_eq_false, not_false_eq_true, and_true, true_and, and_false, false_and, or_true, true_or, or_false, false_or, reduceIte]; rfl)) (by first | rfl | (simp only [eq_true h1, eq_false h2, if_true, if_true, if_false, not_true_eq_false, not_false_eq_true, and_true, true_and, and_false, false_and, or_true, true_or, or_false, false_or, reduceIte]; done) | (simp only [eq_true h1, eq_false h2, if_true, if_true, if_false, not_true_eq_false, not_false_eq_true, and_true, true_and, and_false, false_and, or_true, true_or, or_false, false_or, reduceIte]; rfl))
theorem mq_ref_bad (hm : isMd μ m) {r i : Int32} (h : ¬ rowP r) : evI (ps_XX L xs) (d + 3) j_X8_refused [.ref m, .int r, .int i] μ (-1, μ) := by
  refine ⟨Nat.le_of_ble_eq_true rfl, ?_⟩
  refine e_2 rfl rfl ?_
  refine e_s1 rfl rfl rfl (Nat.le_of_ble_eq_true rfl) (sm_isRow r) ?_
  refine e_31b rfl (fun h1 => ?_) (fun h1 => ?_)
  · exact absurd h1 h
  · refine e_0 rfl ?_
    refine e_42 rfl ?_
    exact e_ri rfl rfl (by rfl) (rfl)
theorem mq_ref_no (hm : isMd μ m) {k : Nat} (hk : k < 6) {i : Int32} (h : ¬ 0 ≤ ps_i μ (m + 3) k) : evI (ps_XX L xs) (d + 3) j_X8_refused [.ref m, .int (nI k), .int i] μ (-3, FM μ m 1) := by
  refine ⟨Nat.le_of_ble_eq_true rfl, ?_⟩
  have hr : rowP (nI k) := ⟨nI_pos' (by omega), nI_le (b := 5) (by omega) (by decide)⟩
  refine e_2 rfl rfl ?_
  refine e_s1 rfl rfl rfl (Nat.le_of_ble_eq_true rfl) (sm_isRow _) ?_
  refine e_31b rfl (fun h1 => ?_) (fun h1 => ?_)
  · refine e_4 rfl rfl ?_
    refine e_gr rfl hm.1 rfl hm.2.2.2.2.2.2.2.2.2.2.2.1 ?_
    refine e_2 rfl rfl ?_
    refine e_48q (i := k) rfl hm.2.2.2.1 (by first | rfl | (simp only [← nI_add, ← pk_mul]; rfl) | (simp only [nI_add, pk_mul, nI_1]; done)) (by omega) (by decide) ?_
    refine e_33 rfl (fun h2 => ?_) (fun h2 => ?_)
    · exact absurd h2 h
    · refine e_4 rfl rfl ?_
      refine e_0 rfl ?_
      refine e_v1 rfl (by first | exact hm.1 | assumption | rfl) rfl (by decide) rfl (Nat.le_of_ble_eq_true rfl) (evo (mq_find (by exact hm) (by decide))) ?_
      refine e_42 rfl ?_
      exact e_ri rfl rfl (by rfl) (rfl)
  · exact absurd hr h1
theorem mq_ref_bey (hm : isMd μ m) {k : Nat} (hk : k < 6) {i : Int32} (hz : 0 ≤ ps_i μ (m + 3) k) (hi2 : ¬ (0 ≤ i ∧ i ≤ ps_i μ (m + 3) k - 1)) : evI (ps_XX L xs) (d + 3) j_X8_refused [.ref m, .int (nI k), .int i] μ (-3, FM μ m 2) := by
  refine ⟨Nat.le_of_ble_eq_true rfl, ?_⟩
  have hr : rowP (nI k) := ⟨nI_pos' (by omega), nI_le (b := 5) (by omega) (by decide)⟩
  refine e_2 rfl rfl ?_
  refine e_s1 rfl rfl rfl (Nat.le_of_ble_eq_true rfl) (sm_isRow _) ?_
  refine e_31b rfl (fun h1 => ?_) (fun h1 => ?_)
  · refine e_4 rfl rfl ?_
    refine e_gr rfl hm.1 rfl hm.2.2.2.2.2.2.2.2.2.2.2.1 ?_
    refine e_2 rfl rfl ?_
    refine e_48q (i := k) rfl hm.2.2.2.1 (by first | rfl | (simp only [← nI_add, ← pk_mul]; rfl) | (simp only [nI_add, pk_mul, nI_1]; done)) (by omega) (by decide) ?_
    refine e_33 rfl (fun h2 => ?_) (fun h2 => ?_)
    · refine e_2 rfl rfl ?_
      refine e_25 rfl ?_
      refine e_1 rfl ?_
      refine e_4 rfl rfl ?_
      refine e_gr rfl hm.1 rfl hm.2.2.2.2.2.2.2.2.2.2.2.1 ?_
      refine e_2 rfl rfl ?_
      refine e_48q (i := k) rfl hm.2.2.2.1 (by first | rfl | (simp only [← nI_add, ← pk_mul]; rfl) | (simp only [nI_add, pk_mul, nI_1]; done)) (by omega) (by decide) ?_
      refine e_0 rfl ?_
      refine e_10 rfl ?_
      refine e_25 rfl ?_
      refine e_s3 rfl rfl rfl (Nat.le_of_ble_eq_true rfl) (sm_in i 0 (ps_i μ (m + 3) k - 1) (by decide) rfl) ?_
      refine e_30b rfl (fun h3 => ?_) (fun h3 => ?_)
      · refine e_4 rfl rfl ?_
        refine e_0 rfl ?_
        refine e_v1 rfl (by first | exact hm.1 | assumption | rfl) rfl (by decide) rfl (Nat.le_of_ble_eq_true rfl) (evo (mq_find (by exact hm) (by decide))) ?_
        exact e_ri rfl rfl (by rfl) (rfl)
      · exact absurd h3 hi2
    · exact absurd hz h2
  · exact absurd hr h1
theorem mq_ref_ok (hm : isMd μ m) {k : Nat} (hk : k < 6) {i : Int32} (hz : 0 ≤ ps_i μ (m + 3) k) (hi2 : 0 ≤ i ∧ i ≤ ps_i μ (m + 3) k - 1) : evI (ps_XX L xs) (d + 3) j_X8_refused [.ref m, .int (nI k), .int i] μ (0, μ) := by
  refine ⟨Nat.le_of_ble_eq_true rfl, ?_⟩
  have hr : rowP (nI k) := ⟨nI_pos' (by omega), nI_le (b := 5) (by omega) (by decide)⟩
  refine e_2 rfl rfl ?_
  refine e_s1 rfl rfl rfl (Nat.le_of_ble_eq_true rfl) (sm_isRow _) ?_
  refine e_31b rfl (fun h1 => ?_) (fun h1 => ?_)
  · refine e_4 rfl rfl ?_
    refine e_gr rfl hm.1 rfl hm.2.2.2.2.2.2.2.2.2.2.2.1 ?_
    refine e_2 rfl rfl ?_
    refine e_48q (i := k) rfl hm.2.2.2.1 (by first | rfl | (simp only [← nI_add, ← pk_mul]; rfl) | (simp only [nI_add, pk_mul, nI_1]; done)) (by omega) (by decide) ?_
    refine e_33 rfl (fun h2 => ?_) (fun h2 => ?_)
    · refine e_2 rfl rfl ?_
      refine e_25 rfl ?_
      refine e_1 rfl ?_
      refine e_4 rfl rfl ?_
      refine e_gr rfl hm.1 rfl hm.2.2.2.2.2.2.2.2.2.2.2.1 ?_
      refine e_2 rfl rfl ?_
      refine e_48q (i := k) rfl hm.2.2.2.1 (by first | rfl | (simp only [← nI_add, ← pk_mul]; rfl) | (simp only [nI_add, pk_mul, nI_1]; done)) (by omega) (by decide) ?_
      refine e_0 rfl ?_
      refine e_10 rfl ?_
      refine e_25 rfl ?_
      refine e_s3 rfl rfl rfl (Nat.le_of_ble_eq_true rfl) (sm_in i 0 (ps_i μ (m + 3) k - 1) (by decide) rfl) ?_
      refine e_30b rfl (fun h3 => ?_) (fun h3 => ?_)
      · exact absurd hi2 h3
      · refine e_0 rfl ?_
        refine e_42 rfl ?_
        exact e_ri rfl rfl (by rfl) (rfl)
    · exact absurd hz h2
  · exact absurd hr h1
theorem mq_lay (hm : isMd μ m) {r : Int32} {k : Nat} (hr : rowP r → r = nI k ∧ k < 6) {i : Int32} {i' : Nat} (hi : 0 ≤ i ∧ i ≤ ps_i μ (m + 3) k - 1 → i = nI i' ∧ i' < 40) (v : Int32) : evI (ps_XX L xs) (d + 4) j_X8_lay [.ref m, .int r, .int i, .int v] μ (if ¬ rowP r then (-1, μ) else if ¬ 0 ≤ ps_i μ (m + 3) k then (-3, FM μ m 1) else if ¬ (0 ≤ i ∧ i ≤ ps_i μ (m + 3) k - 1) then (-3, FM μ m 2) else (1, ps_sI (ps_sI μ (m + 4) (40 * k + i') v) m 9 (ps_i μ (m + 4) (40 * k + i')))) := by
  by_cases hb : rowP r
  · obtain ⟨rfl, hk⟩ := hr hb
    rw [if_neg (Classical.not_not.mpr hb)]
    by_cases hz : 0 ≤ ps_i μ (m + 3) k
    · rw [if_neg (Classical.not_not.mpr hz)]
      by_cases hi2 : 0 ≤ i ∧ i ≤ ps_i μ (m + 3) k - 1
      · rw [if_neg (Classical.not_not.mpr hi2)]
        have ref := mq_ref_ok (L := L) (xs := xs) (d := d) hm hk hz hi2
        obtain ⟨rfl, hi40⟩ := hi hi2
        refine ⟨Nat.le_of_ble_eq_true rfl, ?_⟩
        refine e_4 rfl rfl ?_
        refine e_2 rfl rfl ?_
        refine e_2 rfl rfl ?_
        refine e_v2 rfl (by first | exact hm.1 | assumption | rfl) rfl (by decide) rfl (Nat.le_of_ble_eq_true rfl) (evo ref) ?_
        refine e_5 rfl rfl ?_
        refine e_2 rfl rfl ?_
        refine e_30 rfl (fun h1 => ?_) (fun h1 => ?_)
        · refine e_4 rfl rfl ?_
          refine e_gr rfl hm.1 rfl hm.2.2.2.2.2.2.2.2.2.2.2.2.1 ?_
          refine e_0 rfl ?_
          refine e_2 rfl rfl ?_
          refine e_11 rfl ?_
          refine e_2 rfl rfl ?_
          refine e_9 rfl ?_
          refine e_48q (i := ((40 * k) + i')) rfl hm.2.2.2.2.1 (by first | rfl | (simp only [← nI_add, ← pk_mul]; rfl) | (simp only [nI_add, pk_mul, nI_1]; done)) (by omega) (by decide) ?_
          refine e_5 rfl rfl ?_
          refine e_4 rfl rfl ?_
          refine e_gr rfl hm.1 rfl hm.2.2.2.2.2.2.2.2.2.2.2.2.1 ?_
          refine e_0 rfl ?_
          refine e_2 rfl rfl ?_
          refine e_11 rfl ?_
          refine e_2 rfl rfl ?_
          refine e_9 rfl ?_
          refine e_2 rfl rfl ?_
          refine e_49q (i := ((40 * k) + i')) rfl hm.2.2.2.2.1 (by first | rfl | (simp only [← nI_add, ← pk_mul]; rfl) | (simp only [nI_add, pk_mul, nI_1]; done)) (by omega) (by decide) ?_
          refine e_4 rfl rfl ?_
          refine e_2 rfl rfl ?_
          refine e_v1 rfl (by first | exact hm.1 | assumption | rfl) rfl (by decide) rfl (Nat.le_of_ble_eq_true rfl) (evo (mq_told (by exact hm) _)) ?_
          exact e_ri rfl rfl (by rfl) (rfl)
        · exact absurd rfl h1
      · rw [if_pos hi2]
        have ref := mq_ref_bey (L := L) (xs := xs) (d := d) (i := i) hm hk hz hi2
        refine ⟨Nat.le_of_ble_eq_true rfl, ?_⟩
        refine e_4 rfl rfl ?_
        refine e_2 rfl rfl ?_
        refine e_2 rfl rfl ?_
        refine e_v2 rfl (by first | exact hm.1 | assumption | rfl) rfl (by decide) rfl (Nat.le_of_ble_eq_true rfl) (evo ref) ?_
        refine e_5 rfl rfl ?_
        refine e_2 rfl rfl ?_
        refine e_30 rfl (fun h1 => ?_) (fun h1 => ?_)
        · exact absurd h1 (by decide)
        · refine e_2 rfl rfl ?_
          exact e_ri rfl rfl (by rfl) (rfl)
    · rw [if_pos hz]
      have ref := mq_ref_no (L := L) (xs := xs) (d := d) (i := i) hm hk hz
      refine ⟨Nat.le_of_ble_eq_true rfl, ?_⟩
      refine e_4 rfl rfl ?_
      refine e_2 rfl rfl ?_
      refine e_2 rfl rfl ?_
      refine e_v2 rfl (by first | exact hm.1 | assumption | rfl) rfl (by decide) rfl (Nat.le_of_ble_eq_true rfl) (evo ref) ?_
      refine e_5 rfl rfl ?_
      refine e_2 rfl rfl ?_
      refine e_30 rfl (fun h1 => ?_) (fun h1 => ?_)
      · exact absurd h1 (by decide)
      · refine e_2 rfl rfl ?_
        exact e_ri rfl rfl (by rfl) (rfl)
  · rw [if_pos hb]
    have ref := mq_ref_bad (L := L) (xs := xs) (d := d) (i := i) hm hb
    refine ⟨Nat.le_of_ble_eq_true rfl, ?_⟩
    refine e_4 rfl rfl ?_
    refine e_2 rfl rfl ?_
    refine e_2 rfl rfl ?_
    refine e_v2 rfl (by first | exact hm.1 | assumption | rfl) rfl (by decide) rfl (Nat.le_of_ble_eq_true rfl) (evo ref) ?_
    refine e_5 rfl rfl ?_
    refine e_2 rfl rfl ?_
    refine e_30 rfl (fun h1 => ?_) (fun h1 => ?_)
    · exact absurd h1 (by decide)
    · refine e_2 rfl rfl ?_
      exact e_ri rfl rfl (by rfl) (rfl)
theorem mq_at (hm : isMd μ m) {r : Int32} {k : Nat} (hr : rowP r → r = nI k ∧ k < 6) {i : Int32} {i' : Nat} (hi : 0 ≤ i ∧ i ≤ ps_i μ (m + 3) k - 1 → i = nI i' ∧ i' < 40)  : evI (ps_XX L xs) (d + 4) j_X8_at [.ref m, .int r, .int i] μ (if ¬ rowP r then (-1, μ) else if ¬ 0 ≤ ps_i μ (m + 3) k then (-3, FM μ m 1) else if ¬ (0 ≤ i ∧ i ≤ ps_i μ (m + 3) k - 1) then (-3, FM μ m 2) else (1, ps_sI μ m 9 (ps_i μ (m + 4) (40 * k + i')))) := by
  by_cases hb : rowP r
  · obtain ⟨rfl, hk⟩ := hr hb
    rw [if_neg (Classical.not_not.mpr hb)]
    by_cases hz : 0 ≤ ps_i μ (m + 3) k
    · rw [if_neg (Classical.not_not.mpr hz)]
      by_cases hi2 : 0 ≤ i ∧ i ≤ ps_i μ (m + 3) k - 1
      · rw [if_neg (Classical.not_not.mpr hi2)]
        have ref := mq_ref_ok (L := L) (xs := xs) (d := d) hm hk hz hi2
        obtain ⟨rfl, hi40⟩ := hi hi2
        refine ⟨Nat.le_of_ble_eq_true rfl, ?_⟩
        refine e_4 rfl rfl ?_
        refine e_2 rfl rfl ?_
        refine e_2 rfl rfl ?_
        refine e_v2 rfl (by first | exact hm.1 | assumption | rfl) rfl (by decide) rfl (Nat.le_of_ble_eq_true rfl) (evo ref) ?_
        refine e_5 rfl rfl ?_
        refine e_2 rfl rfl ?_
        refine e_30 rfl (fun h1 => ?_) (fun h1 => ?_)
        · refine e_4 rfl rfl ?_
          refine e_4 rfl rfl ?_
          refine e_gr rfl hm.1 rfl hm.2.2.2.2.2.2.2.2.2.2.2.2.1 ?_
          refine e_0 rfl ?_
          refine e_2 rfl rfl ?_
          refine e_11 rfl ?_
          refine e_2 rfl rfl ?_
          refine e_9 rfl ?_
          refine e_48q (i := ((40 * k) + i')) rfl hm.2.2.2.2.1 (by first | rfl | (simp only [← nI_add, ← pk_mul]; rfl) | (simp only [nI_add, pk_mul, nI_1]; done)) (by omega) (by decide) ?_
          refine e_v1 rfl (by first | exact hm.1 | assumption | rfl) rfl (by decide) rfl (Nat.le_of_ble_eq_true rfl) (evo (mq_told (by exact hm) _)) ?_
          exact e_ri rfl rfl (by rfl) (rfl)
        · exact absurd rfl h1
      · rw [if_pos hi2]
        have ref := mq_ref_bey (L := L) (xs := xs) (d := d) (i := i) hm hk hz hi2
        refine ⟨Nat.le_of_ble_eq_true rfl, ?_⟩
        refine e_4 rfl rfl ?_
        refine e_2 rfl rfl ?_
        refine e_2 rfl rfl ?_
        refine e_v2 rfl (by first | exact hm.1 | assumption | rfl) rfl (by decide) rfl (Nat.le_of_ble_eq_true rfl) (evo ref) ?_
        refine e_5 rfl rfl ?_
        refine e_2 rfl rfl ?_
        refine e_30 rfl (fun h1 => ?_) (fun h1 => ?_)
        · exact absurd h1 (by decide)
        · refine e_2 rfl rfl ?_
          refine e_42 rfl ?_
          exact e_ri rfl rfl (by rfl) (rfl)
    · rw [if_pos hz]
      have ref := mq_ref_no (L := L) (xs := xs) (d := d) (i := i) hm hk hz
      refine ⟨Nat.le_of_ble_eq_true rfl, ?_⟩
      refine e_4 rfl rfl ?_
      refine e_2 rfl rfl ?_
      refine e_2 rfl rfl ?_
      refine e_v2 rfl (by first | exact hm.1 | assumption | rfl) rfl (by decide) rfl (Nat.le_of_ble_eq_true rfl) (evo ref) ?_
      refine e_5 rfl rfl ?_
      refine e_2 rfl rfl ?_
      refine e_30 rfl (fun h1 => ?_) (fun h1 => ?_)
      · exact absurd h1 (by decide)
      · refine e_2 rfl rfl ?_
        refine e_42 rfl ?_
        exact e_ri rfl rfl (by rfl) (rfl)
  · rw [if_pos hb]
    have ref := mq_ref_bad (L := L) (xs := xs) (d := d) (i := i) hm hb
    refine ⟨Nat.le_of_ble_eq_true rfl, ?_⟩
    refine e_4 rfl rfl ?_
    refine e_2 rfl rfl ?_
    refine e_2 rfl rfl ?_
    refine e_v2 rfl (by first | exact hm.1 | assumption | rfl) rfl (by decide) rfl (Nat.le_of_ble_eq_true rfl) (evo ref) ?_
    refine e_5 rfl rfl ?_
    refine e_2 rfl rfl ?_
    refine e_30 rfl (fun h1 => ?_) (fun h1 => ?_)
    · exact absurd h1 (by decide)
    · refine e_2 rfl rfl ?_
      refine e_42 rfl ?_
      exact e_ri rfl rfl (by rfl) (rfl)
theorem mq_tear (hm : isMd μ m) {r : Int32} {k : Nat} (hr : rowP r → r = nI k ∧ k < 6) : evI (ps_XX L xs) (d + 3) j_X8_tear [.ref m, .int r] μ (if ¬ rowP r then (-1, μ) else if ¬ 0 ≤ ps_i μ (m + 3) k then (-3, FM μ m 1) else (1, ps_sI μ (m + 3) k (-1))) := by
  refine ⟨Nat.le_of_ble_eq_true rfl, ?_⟩
  refine e_2 rfl rfl ?_
  refine e_s1 rfl rfl rfl (Nat.le_of_ble_eq_true rfl) (sm_isRow r) ?_
  refine e_31b rfl (fun h1 => ?_) (fun h1 => ?_)
  · obtain ⟨rfl, hk⟩ := hr h1
    refine e_4 rfl rfl ?_
    refine e_gr rfl hm.1 rfl hm.2.2.2.2.2.2.2.2.2.2.2.1 ?_
    refine e_2 rfl rfl ?_
    refine e_48q (i := k) rfl hm.2.2.2.1 (by first | rfl | (simp only [← nI_add, ← pk_mul]; rfl) | (simp only [nI_add, pk_mul, nI_1]; done)) (by omega) (by decide) ?_
    refine e_33 rfl (fun h2 => ?_) (fun h2 => ?_)
    · refine e_4 rfl rfl ?_
      refine e_gr rfl hm.1 rfl hm.2.2.2.2.2.2.2.2.2.2.2.1 ?_
      refine e_2 rfl rfl ?_
      refine e_0 rfl ?_
      refine e_49q (i := k) rfl hm.2.2.2.1 (by first | rfl | (simp only [← nI_add, ← pk_mul]; rfl) | (simp only [nI_add, pk_mul, nI_1]; done)) (by omega) (by decide) ?_
      refine e_0 rfl ?_
      exact e_ri rfl rfl (by first | rfl | (simp only [eq_true h1, eq_true h2, if_true, if_true, if_false, not_true_eq_false, not_false_eq_true, and_true, true_and, and_false, false_and, or_true, true_or, or_false, false_or, reduceIte]; done) | (simp only [eq_true h1, eq_true h2, if_true, if_true, if_false, not_true_eq_false, not_false_eq_true, and_true, true_and, and_false, false_and, or_true, true_or, or_false, false_or, reduceIte]; rfl)) (by first | rfl | (simp only [eq_true h1, eq_true h2, if_true, if_true, if_false, not_true_eq_false, not_false_eq_true, and_true, true_and, and_false, false_and, or_true, true_or, or_false, false_or, reduceIte]; done) | (simp only [eq_true h1, eq_true h2, if_true, if_true, if_false, not_true_eq_false, not_false_eq_true, and_true, true_and, and_false, false_and, or_true, true_or, or_false, false_or, reduceIte]; rfl))
    · refine e_4 rfl rfl ?_
      refine e_0 rfl ?_
      refine e_v1 rfl (by first | exact hm.1 | assumption | rfl) rfl (by decide) rfl (Nat.le_of_ble_eq_true rfl) (evo (mq_find (by exact hm) (by decide))) ?_
      exact e_ri rfl rfl (by first | rfl | (simp only [eq_true h1, eq_false h2, if_true, if_true, if_false, not_true_eq_false, not_false_eq_true, and_true, true_and, and_false, false_and, or_true, true_or, or_false, false_or, reduceIte]; done) | (simp only [eq_true h1, eq_false h2, if_true, if_true, if_false, not_true_eq_false, not_false_eq_true, and_true, true_and, and_false, false_and, or_true, true_or, or_false, false_or, reduceIte]; rfl)) (by first | rfl | (simp only [eq_true h1, eq_false h2, if_true, if_true, if_false, not_true_eq_false, not_false_eq_true, and_true, true_and, and_false, false_and, or_true, true_or, or_false, false_or, reduceIte]; done) | (simp only [eq_true h1, eq_false h2, if_true, if_true, if_false, not_true_eq_false, not_false_eq_true, and_true, true_and, and_false, false_and, or_true, true_or, or_false, false_or, reduceIte]; rfl))
  · refine e_0 rfl ?_
    exact e_ri rfl rfl (by first | rfl | (simp only [eq_false h1, if_true, if_true, if_false, not_true_eq_false, not_false_eq_true, and_true, true_and, and_false, false_and, or_true, true_or, or_false, false_or, reduceIte]; done) | (simp only [eq_false h1, if_true, if_true, if_false, not_true_eq_false, not_false_eq_true, and_true, true_and, and_false, false_and, or_true, true_or, or_false, false_or, reduceIte]; rfl)) (by first | rfl | (simp only [eq_false h1, if_true, if_true, if_false, not_true_eq_false, not_false_eq_true, and_true, true_and, and_false, false_and, or_true, true_or, or_false, false_or, reduceIte]; done) | (simp only [eq_false h1, if_true, if_true, if_false, not_true_eq_false, not_false_eq_true, and_true, true_and, and_false, false_and, or_true, true_or, or_false, false_or, reduceIte]; rfl))
theorem mq_isSpan0 (hm : isMd μ m) {k : Nat} (hk : k < 6) (i n : Int32) : ps_Ev (ps_XX L xs) (d + 1) j_X8_isSpan [.ref m, .int (nI k), .int i, .int n] μ (some (.int (b2i (¬ i < 0 ∧ ¬ 0 < lg_cmp (i.toInt64 + n.toInt64) (ps_i μ (m + 3) k).toInt64)))) μ := by
  refine ⟨Nat.le_of_ble_eq_true rfl, ?_⟩
  refine e_2 rfl rfl ?_
  refine e_32 rfl (fun h1 => ?_) (fun h1 => ?_)
  · refine e_0 rfl ?_
    exact e_rz rfl rfl (by first | decide | exact b2i_01 | assumption) (by first | rfl | (simp only [eq_true h1, if_true, if_true, if_false, ite_true, ite_false, not_true_eq_false, not_false_eq_true, and_true, true_and, and_false, false_and, or_true, true_or, or_false, false_or, Classical.not_not, b2i, reduceIte]; done) | grind [b2i]) (rfl)
  · refine e_2 rfl rfl ?_
    refine e_25 rfl ?_
    refine e_2 rfl rfl ?_
    refine e_25 rfl ?_
    refine e_19 rfl ?_
    refine e_4 rfl rfl ?_
    refine e_gr rfl hm.1 rfl hm.2.2.2.2.2.2.2.2.2.2.2.1 ?_
    refine e_2 rfl rfl ?_
    refine e_48q (i := k) rfl hm.2.2.2.1 (by first | rfl | (simp only [← nI_add, ← pk_mul]; rfl) | (simp only [nI_add, pk_mul, nI_1]; done)) (by omega) (by decide) ?_
    refine e_25 rfl ?_
    refine e_24 rfl ?_
    refine e_34 rfl (fun h2 => ?_) (fun h2 => ?_)
    · refine e_0 rfl ?_
      exact e_rz rfl rfl (by first | decide | exact b2i_01 | assumption) (by first | rfl | (simp only [eq_false h1, eq_true h2, if_true, if_true, if_false, ite_true, ite_false, not_true_eq_false, not_false_eq_true, and_true, true_and, and_false, false_and, or_true, true_or, or_false, false_or, Classical.not_not, b2i, reduceIte]; done) | grind [b2i]) (rfl)
    · refine e_0 rfl ?_
      refine e_42 rfl ?_
      exact e_rz rfl rfl (by first | decide | exact b2i_01 | assumption) (by first | rfl | (simp only [eq_false h1, eq_false h2, if_true, if_true, if_false, ite_true, ite_false, not_true_eq_false, not_false_eq_true, and_true, true_and, and_false, false_and, or_true, true_or, or_false, false_or, Classical.not_not, b2i, reduceIte]; done) | grind [b2i]) (rfl)
theorem mq_isSpan (hm : isMd μ m) {k : Nat} (hk : k < 6) (i n : Int32) : ps_Ev (ps_XX L xs) (d + 1) j_X8_isSpan [.ref m, .int (nI k), .int i, .int n] μ (some (.int (b2i (spanP i n (ps_i μ (m + 3) k))))) μ := by
  rw [← b2i_c span_l]
  exact mq_isSpan0 hm hk i n
theorem cpR_f {I : Nat → Nat → Int32} {c a b n : Nat} (h : b ≤ a ∨ a + n < b) : ps_up (cpR I c a b n) c (b + n) (cpR I c a b n c (a + n)) = cpR I c a b (n + 1) := by
  funext k q
  unfold ps_up cpR
  grind
theorem cpR_b2 {I : Nat → Nat → Int32} {c a b n : Nat} {x : Nat} (h : a ≤ b ∨ b + n + x < a) : ps_up (cpR I c (a + (x + 1)) (b + (x + 1)) n) c (b + x) (cpR I c (a + (x + 1)) (b + (x + 1)) n c (a + x)) = cpR I c (a + x) (b + x) (n + 1) := by
  funext k q
  unfold ps_up cpR
  grind
theorem cpR_b {I : Nat → Nat → Int32} {c a b n : Nat} (h : a ≤ b) : ps_up (cpR I c (a + 1) (b + 1) n) c b (cpR I c (a + 1) (b + 1) n c a) = cpR I c a b (n + 1) := by
  funext k q
  unfold ps_up cpR
  grind
theorem mq_copy_f (hm : isMd μ m) {k t : Nat} (hk : k < 6) (ht : t < 6) {a b N : Nat} (ha : a + N ≤ 40) (hb : b + N ≤ 40) (ho : 40 * t + b ≤ 40 * k + a ∨ 40 * k + a + N ≤ 40 * t + b) : ∀ (n i : Nat), i + n = N → ps_To (ps_XX L xs) (ps_Ev (ps_XX L xs) (d + 0)) j_X8_copy (ps_rt j_X8_copy (some (.int 1)) (ps_wI μ (cpR (ps_i μ) (m + 4) (40 * k + a) (40 * t + b) N))) (96, [(7, .int (nI i)), (6, .int (0)), (0, .ref (m)), (1, .int (nI k)), (2, .int (nI a)), (3, .int (nI t)), (4, .int (nI b)), (5, .int (nI N))], [], ps_wI μ (cpR (ps_i μ) (m + 4) (40 * k + a) (40 * t + b) i)) := by
  intro n
  induction n with
  | zero =>
    intro i hi
    obtain rfl : i = N := by omega
    refine e_2 rfl rfl ?_
    refine e_2 rfl rfl ?_
    refine e_39 rfl (fun h1 => ?_) (fun h1 => ?_)
    · refine e_0 rfl ?_
      exact e_ri rfl rfl (by rfl) (rfl)
    · exact absurd (nI_le (Nat.le_refl _) (by omega)) h1
  | succ n ih =>
    intro i hi
    refine e_2 rfl rfl ?_
    refine e_2 rfl rfl ?_
    refine e_39 rfl (fun h1 => ?_) (fun h1 => ?_)
    · exact absurd h1 (nI_ge (by omega) (by omega))
    · refine e_2 rfl rfl ?_
      refine e_30 rfl (fun h2 => ?_) (fun h2 => ?_)
      · refine e_2 rfl rfl ?_
        refine e_5 rfl rfl ?_
        refine e_4 rfl rfl ?_
        refine e_gr rfl hm.1 rfl hm.2.2.2.2.2.2.2.2.2.2.2.2.1 ?_
        refine e_0 rfl ?_
        refine e_2 rfl rfl ?_
        refine e_11 rfl ?_
        refine e_2 rfl rfl ?_
        refine e_9 rfl ?_
        refine e_2 rfl rfl ?_
        refine e_9 rfl ?_
        refine e_4 rfl rfl ?_
        refine e_gr rfl hm.1 rfl hm.2.2.2.2.2.2.2.2.2.2.2.2.1 ?_
        refine e_0 rfl ?_
        refine e_2 rfl rfl ?_
        refine e_11 rfl ?_
        refine e_2 rfl rfl ?_
        refine e_9 rfl ?_
        refine e_2 rfl rfl ?_
        refine e_9 rfl ?_
        refine e_48q (i := (((40 * k) + a) + i)) rfl hm.2.2.2.2.1 (by first | rfl | (simp only [← nI_add, ← pk_mul]; rfl) | (simp only [nI_add, pk_mul, nI_1]; done)) (by omega) (by decide) ?_
        refine e_49q (i := (((40 * t) + b) + i)) rfl hm.2.2.2.2.1 (by first | rfl | (simp only [← nI_add, ← pk_mul]; rfl) | (simp only [nI_add, pk_mul, nI_1]; done)) (by omega) (by decide) ?_
        refine e_8 rfl rfl rfl ?_
        refine e_42 rfl ?_
        refine e_lv [0, 2, 3, 4, 5, 6, 7, 8] rfl rfl ?_
        show ps_To _ _ _ _ (96, [(7, .int _), (6, .int _), (0, .ref _), (1, .int _), (2, .int _), (3, .int _), (4, .int _), (5, .int _)], [], _)
        have h := ih (i + 1) (by omega)
        rw [← cpR_f (by omega)] at h
        rw [nI_1]
        exact h
      · exact absurd rfl h2
theorem mq_copy_b (hm : isMd μ m) {k t : Nat} (hk : k < 6) (ht : t < 6) {a b N : Nat} (ha : a + N ≤ 40) (hb : b + N ≤ 40) (ho : 40 * k + a ≤ 40 * t + b ∨ 40 * t + b + N ≤ 40 * k + a) : ∀ (n i : Nat), i + n = N → ps_To (ps_XX L xs) (ps_Ev (ps_XX L xs) (d + 0)) j_X8_copy (ps_rt j_X8_copy (some (.int 1)) (ps_wI μ (cpR (ps_i μ) (m + 4) (40 * k + a) (40 * t + b) N))) (96, [(7, .int (nI i)), (6, .int (1)), (0, .ref (m)), (1, .int (nI k)), (2, .int (nI a)), (3, .int (nI t)), (4, .int (nI b)), (5, .int (nI N))], [], ps_wI μ (cpR (ps_i μ) (m + 4) (40 * k + a + n) (40 * t + b + n) i)) := by
  intro n
  induction n with
  | zero =>
    intro i hi
    obtain rfl : i = N := by omega
    refine e_2 rfl rfl ?_
    refine e_2 rfl rfl ?_
    refine e_39 rfl (fun h1 => ?_) (fun h1 => ?_)
    · refine e_0 rfl ?_
      exact e_ri rfl rfl (by rfl) (rfl)
    · exact absurd (nI_le (Nat.le_refl _) (by omega)) h1
  | succ n ih =>
    intro i hi
    refine e_2 rfl rfl ?_
    refine e_2 rfl rfl ?_
    refine e_39 rfl (fun h1 => ?_) (fun h1 => ?_)
    · exact absurd h1 (nI_ge (by omega) (by omega))
    · refine e_2 rfl rfl ?_
      refine e_30 rfl (fun h2 => ?_) (fun h2 => ?_)
      · exact absurd h2 (by decide)
      · refine e_2 rfl rfl ?_
        refine e_0 rfl ?_
        refine e_10 rfl ?_
        refine e_2 rfl rfl ?_
        refine e_10 rfl ?_
        refine e_42 rfl ?_
        refine e_5 rfl rfl ?_
        refine e_4 rfl rfl ?_
        refine e_gr rfl hm.1 rfl hm.2.2.2.2.2.2.2.2.2.2.2.2.1 ?_
        refine e_0 rfl ?_
        refine e_2 rfl rfl ?_
        refine e_11 rfl ?_
        refine e_2 rfl rfl ?_
        refine e_9 rfl ?_
        refine e_2 rfl rfl ?_
        refine e_9 rfl ?_
        refine e_4 rfl rfl ?_
        refine e_gr rfl hm.1 rfl hm.2.2.2.2.2.2.2.2.2.2.2.2.1 ?_
        refine e_0 rfl ?_
        refine e_2 rfl rfl ?_
        refine e_11 rfl ?_
        refine e_2 rfl rfl ?_
        refine e_9 rfl ?_
        refine e_2 rfl rfl ?_
        refine e_9 rfl ?_
        refine e_48q (i := (40 * k + a + n)) rfl hm.2.2.2.2.1 (by rw [show (40 : Int32) * nI k + nI a + (nI N - 1 - nI i) = nI (40 * k + a + (N - 1 - i)) from (by rw [show (1 : Int32) = nI 1 from rfl, pk_sub (by omega), pk_sub (by omega), ← nI_add, ← nI_add, ← pk_mul]; rfl)]; exact congrArg nI (by omega)) (by omega) (by decide) ?_
        refine e_49q (i := (40 * t + b + n)) rfl hm.2.2.2.2.1 (by rw [show (40 : Int32) * nI t + nI b + (nI N - 1 - nI i) = nI (40 * t + b + (N - 1 - i)) from (by rw [show (1 : Int32) = nI 1 from rfl, pk_sub (by omega), pk_sub (by omega), ← nI_add, ← nI_add, ← pk_mul]; rfl)]; exact congrArg nI (by omega)) (by omega) (by decide) ?_
        refine e_8 rfl rfl rfl ?_
        refine e_42 rfl ?_
        refine e_lv [0, 2, 3, 4, 5, 6, 7, 8] rfl rfl ?_
        show ps_To _ _ _ _ (96, [(7, .int _), (6, .int _), (0, .ref _), (1, .int _), (2, .int _), (3, .int _), (4, .int _), (5, .int _)], [], _)
        have h := ih (i + 1) (by omega)
        rw [← cpR_b2 (by omega)] at h
        rw [nI_1]
        exact h
end MQ2
