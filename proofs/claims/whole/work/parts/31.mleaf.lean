-- ===== the model's leaves =====
def needsM (kind : Int32) : Int32 := if kind = 1 ∨ kind = 4 then 4 else if kind = 2 ∨ kind = 5 then 1 else 2
def byM (kind : Int32) : Int32 := if kind = 1 ∨ kind = 4 then 9 else if kind = 3 then 3 else if kind = 5 then 7 else 6
def pumpsM (kind strength choke : Int32) : Int32 := if choke ≤ 4 then (if needsM kind ≤ strength then byM kind else if kind = 4 then byM kind else byM kind / 2) else (if needsM kind ≤ strength then byM kind else if kind = 4 then byM kind else byM kind / 2) / 3
def behindM (kind strength : Int32) : Int32 := if needsM kind ≤ strength then strength - needsM kind else 0
def letterM (c : Int32) : Int32 := if c = 103 then 0 else if c = 114 then 1 else if c = 115 then 2 else if c = 102 then 3 else if c = 108 then 4 else if c = 99 then 5 else -9
theorem l64_lt {a b : Int32} : a.toInt64 < b.toInt64 ↔ a < b := by
  rw [Int64.lt_iff_toInt_lt, Int32.lt_iff_toInt_lt, Int32.toInt_toInt64, Int32.toInt_toInt64]
theorem l64_le {a b : Int32} : a.toInt64 ≤ b.toInt64 ↔ a ≤ b := by
  rw [Int64.le_iff_toInt_le, Int32.le_iff_toInt_le, Int32.toInt_toInt64, Int32.toInt_toInt64]
section MLF
variable {L : Nat} {xs : Nat → Int32} {d : Nat} {μ : ps_M}
theorem sm_in0 (x l h : Int64) : ps_Ev (ps_XX L xs) (d + 1) j_X8_in [.long x, .long l, .long h] μ (some (.int (b2i (¬ lg_cmp x l < 0 ∧ ¬ 0 < lg_cmp x h)))) μ := by
  refine ⟨Nat.le_of_ble_eq_true rfl, ?_⟩
  refine e_3 rfl rfl ?_
  refine e_3 rfl rfl ?_
  refine e_24 rfl ?_
  refine e_32 rfl (fun h1 => ?_) (fun h1 => ?_)
  · refine e_0 rfl ?_
    exact e_rz rfl rfl (by first | decide | exact b2i_01 | assumption) (by first | rfl | (simp only [eq_true h1, if_true, if_true, if_false, ite_true, ite_false, not_true_eq_false, not_false_eq_true, and_true, true_and, and_false, false_and, or_true, true_or, or_false, false_or, Classical.not_not, b2i, reduceIte]; done) | grind [b2i]) (rfl)
  · refine e_3 rfl rfl ?_
    refine e_3 rfl rfl ?_
    refine e_24 rfl ?_
    refine e_34 rfl (fun h2 => ?_) (fun h2 => ?_)
    · refine e_0 rfl ?_
      exact e_rz rfl rfl (by first | decide | exact b2i_01 | assumption) (by first | rfl | (simp only [eq_false h1, eq_true h2, if_true, if_true, if_false, ite_true, ite_false, not_true_eq_false, not_false_eq_true, and_true, true_and, and_false, false_and, or_true, true_or, or_false, false_or, Classical.not_not, b2i, reduceIte]; done) | grind [b2i]) (rfl)
    · refine e_0 rfl ?_
      refine e_42 rfl ?_
      exact e_rz rfl rfl (by first | decide | exact b2i_01 | assumption) (by first | rfl | (simp only [eq_false h1, eq_false h2, if_true, if_true, if_false, ite_true, ite_false, not_true_eq_false, not_false_eq_true, and_true, true_and, and_false, false_and, or_true, true_or, or_false, false_or, Classical.not_not, b2i, reduceIte]; done) | grind [b2i]) (rfl)
theorem sm_in (x l h : Int32) {vl vh : Int64} (h1 : vl = l.toInt64) (h2 : vh = h.toInt64) : ps_Ev (ps_XX L xs) (d + 1) j_X8_in [.long x.toInt64, .long vl, .long vh] μ (some (.int (b2i (l ≤ x ∧ x ≤ h)))) μ := by
  have e := sm_in0 (L := L) (xs := xs) (d := d) (μ := μ) x.toInt64 vl vh
  have c : b2i (¬ lg_cmp x.toInt64 vl < 0 ∧ ¬ 0 < lg_cmp x.toInt64 vh) = b2i (l ≤ x ∧ x ≤ h) := by
    apply b2i_c
    rw [lg_cmp_lt, lg_cmp_gt, h1, h2, l64_lt, l64_lt, Int32.not_lt, Int32.not_lt]
  rw [← c]
  exact e
theorem sm_has (s k : Int32) : ps_Ev (ps_XX L xs) (d + 1) j_X8_has [.int s, .int k] μ (some (.int (b2i ((s >>> (k &&& 31)) &&& 1 = 1)))) μ := by
  refine ⟨Nat.le_of_ble_eq_true rfl, ?_⟩
  refine e_2 rfl rfl ?_
  refine e_2 rfl rfl ?_
  refine e_15 rfl ?_
  refine e_0 rfl ?_
  refine e_12 rfl ?_
  refine e_0 rfl ?_
  refine e_37 rfl (fun h1 => ?_) (fun h1 => ?_)
  · refine e_0 rfl ?_
    exact e_rz rfl rfl (by first | decide | exact b2i_01 | assumption) (by first | rfl | (simp only [eq_false h1, if_true, if_true, if_false, ite_true, ite_false, not_true_eq_false, not_false_eq_true, and_true, true_and, and_false, false_and, or_true, true_or, or_false, false_or, Classical.not_not, b2i, reduceIte]; done) | grind [b2i]) (rfl)
  · refine e_0 rfl ?_
    refine e_42 rfl ?_
    exact e_rz rfl rfl (by first | decide | exact b2i_01 | assumption) (by first | rfl | (simp only [eq_true h1, if_true, if_true, if_false, ite_true, ite_false, not_true_eq_false, not_false_eq_true, and_true, true_and, and_false, false_and, or_true, true_or, or_false, false_or, Classical.not_not, b2i, reduceIte]; done) | grind [b2i]) (rfl)
theorem sm_isRow (r : Int32) : ps_Ev (ps_XX L xs) (d + 2) j_X8_isRow [.int r] μ (some (.int (b2i (0 ≤ r ∧ r ≤ 5)))) μ := by
  refine ⟨Nat.le_of_ble_eq_true rfl, ?_⟩
  refine e_2 rfl rfl ?_
  refine e_25 rfl ?_
  refine e_1 rfl ?_
  refine e_1 rfl ?_
  refine e_s3 rfl rfl rfl (Nat.le_of_ble_eq_true rfl) (sm_in r 0 5 (by decide) (by decide)) ?_
  exact e_rz rfl rfl (by first | decide | exact b2i_01 | assumption) (by rfl) (rfl)
theorem sm_isText (r : Int32) : ps_Ev (ps_XX L xs) (d + 2) j_X8_isText [.int r] μ (some (.int (b2i (0 ≤ r ∧ r ≤ 3)))) μ := by
  refine ⟨Nat.le_of_ble_eq_true rfl, ?_⟩
  refine e_2 rfl rfl ?_
  refine e_25 rfl ?_
  refine e_1 rfl ?_
  refine e_1 rfl ?_
  refine e_s3 rfl rfl rfl (Nat.le_of_ble_eq_true rfl) (sm_in r 0 3 (by decide) (by decide)) ?_
  exact e_rz rfl rfl (by first | decide | exact b2i_01 | assumption) (by rfl) (rfl)
theorem sm_isAct (r : Int32) : ps_Ev (ps_XX L xs) (d + 2) j_X8_isAct [.int r] μ (some (.int (b2i (0 ≤ r ∧ r ≤ 9)))) μ := by
  refine ⟨Nat.le_of_ble_eq_true rfl, ?_⟩
  refine e_2 rfl rfl ?_
  refine e_25 rfl ?_
  refine e_1 rfl ?_
  refine e_1 rfl ?_
  refine e_s3 rfl rfl rfl (Nat.le_of_ble_eq_true rfl) (sm_in r 0 9 (by decide) (by decide)) ?_
  exact e_rz rfl rfl (by first | decide | exact b2i_01 | assumption) (by rfl) (rfl)
theorem sm_isRacing (k : Int32) : ps_Ev (ps_XX L xs) (d + 1) j_X8_isRacing [.int k] μ (some (.int (b2i (k = 1 ∨ k = 4)))) μ := by
  refine ⟨Nat.le_of_ble_eq_true rfl, ?_⟩
  refine e_2 rfl rfl ?_
  refine e_0 rfl ?_
  refine e_36 rfl (fun h1 => ?_) (fun h1 => ?_)
  · refine e_0 rfl ?_
    refine e_42 rfl ?_
    exact e_rz rfl rfl (by first | decide | exact b2i_01 | assumption) (by first | rfl | (simp only [eq_true h1, if_true, if_true, if_false, ite_true, ite_false, not_true_eq_false, not_false_eq_true, and_true, true_and, and_false, false_and, or_true, true_or, or_false, false_or, Classical.not_not, b2i, reduceIte]; done) | grind [b2i]) (rfl)
  · refine e_2 rfl rfl ?_
    refine e_0 rfl ?_
    refine e_37 rfl (fun h2 => ?_) (fun h2 => ?_)
    · refine e_0 rfl ?_
      exact e_rz rfl rfl (by first | decide | exact b2i_01 | assumption) (by first | rfl | (simp only [eq_false h1, eq_false h2, if_true, if_true, if_false, ite_true, ite_false, not_true_eq_false, not_false_eq_true, and_true, true_and, and_false, false_and, or_true, true_or, or_false, false_or, Classical.not_not, b2i, reduceIte]; done) | grind [b2i]) (rfl)
    · refine e_0 rfl ?_
      refine e_42 rfl ?_
      exact e_rz rfl rfl (by first | decide | exact b2i_01 | assumption) (by first | rfl | (simp only [eq_false h1, eq_true h2, if_true, if_true, if_false, ite_true, ite_false, not_true_eq_false, not_false_eq_true, and_true, true_and, and_false, false_and, or_true, true_or, or_false, false_or, Classical.not_not, b2i, reduceIte]; done) | grind [b2i]) (rfl)
theorem sm_isSung (k : Int32) : ps_Ev (ps_XX L xs) (d + 1) j_X8_isSung [.int k] μ (some (.int (b2i (k = 2 ∨ k = 5)))) μ := by
  refine ⟨Nat.le_of_ble_eq_true rfl, ?_⟩
  refine e_2 rfl rfl ?_
  refine e_0 rfl ?_
  refine e_36 rfl (fun h1 => ?_) (fun h1 => ?_)
  · refine e_0 rfl ?_
    refine e_42 rfl ?_
    exact e_rz rfl rfl (by first | decide | exact b2i_01 | assumption) (by first | rfl | (simp only [eq_true h1, if_true, if_true, if_false, ite_true, ite_false, not_true_eq_false, not_false_eq_true, and_true, true_and, and_false, false_and, or_true, true_or, or_false, false_or, Classical.not_not, b2i, reduceIte]; done) | grind [b2i]) (rfl)
  · refine e_2 rfl rfl ?_
    refine e_0 rfl ?_
    refine e_37 rfl (fun h2 => ?_) (fun h2 => ?_)
    · refine e_0 rfl ?_
      exact e_rz rfl rfl (by first | decide | exact b2i_01 | assumption) (by first | rfl | (simp only [eq_false h1, eq_false h2, if_true, if_true, if_false, ite_true, ite_false, not_true_eq_false, not_false_eq_true, and_true, true_and, and_false, false_and, or_true, true_or, or_false, false_or, Classical.not_not, b2i, reduceIte]; done) | grind [b2i]) (rfl)
    · refine e_0 rfl ?_
      refine e_42 rfl ?_
      exact e_rz rfl rfl (by first | decide | exact b2i_01 | assumption) (by first | rfl | (simp only [eq_false h1, eq_true h2, if_true, if_true, if_false, ite_true, ite_false, not_true_eq_false, not_false_eq_true, and_true, true_and, and_false, false_and, or_true, true_or, or_false, false_or, Classical.not_not, b2i, reduceIte]; done) | grind [b2i]) (rfl)
theorem sm_needs (k : Int32) : ps_Ev (ps_XX L xs) (d + 2) j_X8_needs [.int k] μ (some (.int (needsM k))) μ := by
  refine ⟨Nat.le_of_ble_eq_true rfl, ?_⟩
  refine e_2 rfl rfl ?_
  refine e_s1 rfl rfl rfl (Nat.le_of_ble_eq_true rfl) (sm_isRacing k) ?_
  refine e_30b rfl (fun h1 => ?_) (fun h1 => ?_)
  · refine e_2 rfl rfl ?_
    refine e_s1 rfl rfl rfl (Nat.le_of_ble_eq_true rfl) (sm_isSung k) ?_
    refine e_30b rfl (fun h2 => ?_) (fun h2 => ?_)
    · refine e_0 rfl ?_
      exact e_ri rfl rfl (by unfold needsM; simp only [eq_false h1, eq_false h2, if_true, if_false, reduceIte]) (rfl)
    · refine e_0 rfl ?_
      refine e_42 rfl ?_
      exact e_ri rfl rfl (by unfold needsM; simp only [eq_false h1, eq_true h2, if_true, if_false, reduceIte]) (rfl)
  · refine e_0 rfl ?_
    refine e_42 rfl ?_
    exact e_ri rfl rfl (by unfold needsM; simp only [eq_true h1, if_true, if_false, reduceIte]) (rfl)
theorem sm_pumps (k s c : Int32) : ps_Ev (ps_XX L xs) (d + 3) j_X8_pumps [.int k, .int s, .int c] μ (some (.int (pumpsM k s c))) μ := by
  refine ⟨Nat.le_of_ble_eq_true rfl, ?_⟩
  refine e_2 rfl rfl ?_
  refine e_s1 rfl rfl rfl (Nat.le_of_ble_eq_true rfl) (sm_isRacing k) ?_
  refine e_30b rfl (fun h1 => ?_) (fun h1 => ?_)
  · refine e_2 rfl rfl ?_
    refine e_0 rfl ?_
    refine e_37 rfl (fun h2 => ?_) (fun h2 => ?_)
    · refine e_2 rfl rfl ?_
      refine e_0 rfl ?_
      refine e_37 rfl (fun h3 => ?_) (fun h3 => ?_)
      · refine e_0 rfl ?_
        refine e_5 rfl rfl ?_
        refine e_2 rfl rfl ?_
        refine e_2 rfl rfl ?_
        refine e_s1 rfl rfl rfl (Nat.le_of_ble_eq_true rfl) (sm_needs k) ?_
        refine e_39 rfl (fun h4 => ?_) (fun h4 => ?_)
        · refine e_2 rfl rfl ?_
          refine e_5 rfl rfl ?_
          refine e_2 rfl rfl ?_
          refine e_0 rfl ?_
          refine e_41 rfl (fun h5 => ?_) (fun h5 => ?_)
          · refine e_2 rfl rfl ?_
            exact e_ri rfl rfl (by unfold pumpsM byM; first | (simp_all; done) | (simp only [eq_false h1, eq_false h2, eq_false h3, eq_true h4, eq_true h5, if_true, if_false, reduceIte]; simp_all; done) | (simp only [eq_false h1, eq_false h2, eq_false h3, eq_true h4, eq_true h5, if_true, if_false, reduceIte]; simp_all; decide) | (simp_all; decide) | (simp_all; rfl) | grind) (rfl)
          · refine e_2 rfl rfl ?_
            refine e_0 rfl ?_
            refine e_17 rfl (by first | decide | assumption) ?_
            refine e_42 rfl ?_
            exact e_ri rfl rfl (by unfold pumpsM byM; first | (simp_all; done) | (simp only [eq_false h1, eq_false h2, eq_false h3, eq_true h4, eq_false h5, if_true, if_false, reduceIte]; simp_all; done) | (simp only [eq_false h1, eq_false h2, eq_false h3, eq_true h4, eq_false h5, if_true, if_false, reduceIte]; simp_all; decide) | (simp_all; decide) | (simp_all; rfl) | grind) (rfl)
        · refine e_2 rfl rfl ?_
          refine e_0 rfl ?_
          refine e_36 rfl (fun h6 => ?_) (fun h6 => ?_)
          · refine e_2 rfl rfl ?_
            refine e_5 rfl rfl ?_
            refine e_2 rfl rfl ?_
            refine e_0 rfl ?_
            refine e_41 rfl (fun h7 => ?_) (fun h7 => ?_)
            · refine e_2 rfl rfl ?_
              exact e_ri rfl rfl (by unfold pumpsM byM; first | (simp_all; done) | (simp only [eq_false h1, eq_false h2, eq_false h3, eq_false h4, eq_true h6, eq_true h7, if_true, if_false, reduceIte]; simp_all; done) | (simp only [eq_false h1, eq_false h2, eq_false h3, eq_false h4, eq_true h6, eq_true h7, if_true, if_false, reduceIte]; simp_all; decide) | (simp_all; decide) | (simp_all; rfl) | grind) (rfl)
            · refine e_2 rfl rfl ?_
              refine e_0 rfl ?_
              refine e_17 rfl (by first | decide | assumption) ?_
              refine e_42 rfl ?_
              exact e_ri rfl rfl (by unfold pumpsM byM; first | (simp_all; done) | (simp only [eq_false h1, eq_false h2, eq_false h3, eq_false h4, eq_true h6, eq_false h7, if_true, if_false, reduceIte]; simp_all; done) | (simp only [eq_false h1, eq_false h2, eq_false h3, eq_false h4, eq_true h6, eq_false h7, if_true, if_false, reduceIte]; simp_all; decide) | (simp_all; decide) | (simp_all; rfl) | grind) (rfl)
          · refine e_2 rfl rfl ?_
            refine e_0 rfl ?_
            refine e_17 rfl (by first | decide | assumption) ?_
            refine e_42 rfl ?_
            refine e_5 rfl rfl ?_
            refine e_2 rfl rfl ?_
            refine e_0 rfl ?_
            refine e_41 rfl (fun h8 => ?_) (fun h8 => ?_)
            · refine e_2 rfl rfl ?_
              exact e_ri rfl rfl (by unfold pumpsM byM; first | (simp_all; done) | (simp only [eq_false h1, eq_false h2, eq_false h3, eq_false h4, eq_false h6, eq_true h8, if_true, if_false, reduceIte]; simp_all; done) | (simp only [eq_false h1, eq_false h2, eq_false h3, eq_false h4, eq_false h6, eq_true h8, if_true, if_false, reduceIte]; simp_all; decide) | (simp_all; decide) | (simp_all; rfl) | grind) (rfl)
            · refine e_2 rfl rfl ?_
              refine e_0 rfl ?_
              refine e_17 rfl (by first | decide | assumption) ?_
              refine e_42 rfl ?_
              exact e_ri rfl rfl (by unfold pumpsM byM; first | (simp_all; done) | (simp only [eq_false h1, eq_false h2, eq_false h3, eq_false h4, eq_false h6, eq_false h8, if_true, if_false, reduceIte]; simp_all; done) | (simp only [eq_false h1, eq_false h2, eq_false h3, eq_false h4, eq_false h6, eq_false h8, if_true, if_false, reduceIte]; simp_all; decide) | (simp_all; decide) | (simp_all; rfl) | grind) (rfl)
      · refine e_0 rfl ?_
        refine e_42 rfl ?_
        refine e_5 rfl rfl ?_
        refine e_2 rfl rfl ?_
        refine e_2 rfl rfl ?_
        refine e_s1 rfl rfl rfl (Nat.le_of_ble_eq_true rfl) (sm_needs k) ?_
        refine e_39 rfl (fun h9 => ?_) (fun h9 => ?_)
        · refine e_2 rfl rfl ?_
          refine e_5 rfl rfl ?_
          refine e_2 rfl rfl ?_
          refine e_0 rfl ?_
          refine e_41 rfl (fun h10 => ?_) (fun h10 => ?_)
          · refine e_2 rfl rfl ?_
            exact e_ri rfl rfl (by unfold pumpsM byM; first | (simp_all; done) | (simp only [eq_false h1, eq_false h2, eq_true h3, eq_true h9, eq_true h10, if_true, if_false, reduceIte]; simp_all; done) | (simp only [eq_false h1, eq_false h2, eq_true h3, eq_true h9, eq_true h10, if_true, if_false, reduceIte]; simp_all; decide) | (simp_all; decide) | (simp_all; rfl) | grind) (rfl)
          · refine e_2 rfl rfl ?_
            refine e_0 rfl ?_
            refine e_17 rfl (by first | decide | assumption) ?_
            refine e_42 rfl ?_
            exact e_ri rfl rfl (by unfold pumpsM byM; first | (simp_all; done) | (simp only [eq_false h1, eq_false h2, eq_true h3, eq_true h9, eq_false h10, if_true, if_false, reduceIte]; simp_all; done) | (simp only [eq_false h1, eq_false h2, eq_true h3, eq_true h9, eq_false h10, if_true, if_false, reduceIte]; simp_all; decide) | (simp_all; decide) | (simp_all; rfl) | grind) (rfl)
        · refine e_2 rfl rfl ?_
          refine e_0 rfl ?_
          refine e_36 rfl (fun h11 => ?_) (fun h11 => ?_)
          · refine e_2 rfl rfl ?_
            refine e_5 rfl rfl ?_
            refine e_2 rfl rfl ?_
            refine e_0 rfl ?_
            refine e_41 rfl (fun h12 => ?_) (fun h12 => ?_)
            · refine e_2 rfl rfl ?_
              exact e_ri rfl rfl (by unfold pumpsM byM; first | (simp_all; done) | (simp only [eq_false h1, eq_false h2, eq_true h3, eq_false h9, eq_true h11, eq_true h12, if_true, if_false, reduceIte]; simp_all; done) | (simp only [eq_false h1, eq_false h2, eq_true h3, eq_false h9, eq_true h11, eq_true h12, if_true, if_false, reduceIte]; simp_all; decide) | (simp_all; decide) | (simp_all; rfl) | grind) (rfl)
            · refine e_2 rfl rfl ?_
              refine e_0 rfl ?_
              refine e_17 rfl (by first | decide | assumption) ?_
              refine e_42 rfl ?_
              exact e_ri rfl rfl (by unfold pumpsM byM; first | (simp_all; done) | (simp only [eq_false h1, eq_false h2, eq_true h3, eq_false h9, eq_true h11, eq_false h12, if_true, if_false, reduceIte]; simp_all; done) | (simp only [eq_false h1, eq_false h2, eq_true h3, eq_false h9, eq_true h11, eq_false h12, if_true, if_false, reduceIte]; simp_all; decide) | (simp_all; decide) | (simp_all; rfl) | grind) (rfl)
          · refine e_2 rfl rfl ?_
            refine e_0 rfl ?_
            refine e_17 rfl (by first | decide | assumption) ?_
            refine e_42 rfl ?_
            refine e_5 rfl rfl ?_
            refine e_2 rfl rfl ?_
            refine e_0 rfl ?_
            refine e_41 rfl (fun h13 => ?_) (fun h13 => ?_)
            · refine e_2 rfl rfl ?_
              exact e_ri rfl rfl (by unfold pumpsM byM; first | (simp_all; done) | (simp only [eq_false h1, eq_false h2, eq_true h3, eq_false h9, eq_false h11, eq_true h13, if_true, if_false, reduceIte]; simp_all; done) | (simp only [eq_false h1, eq_false h2, eq_true h3, eq_false h9, eq_false h11, eq_true h13, if_true, if_false, reduceIte]; simp_all; decide) | (simp_all; decide) | (simp_all; rfl) | grind) (rfl)
            · refine e_2 rfl rfl ?_
              refine e_0 rfl ?_
              refine e_17 rfl (by first | decide | assumption) ?_
              refine e_42 rfl ?_
              exact e_ri rfl rfl (by unfold pumpsM byM; first | (simp_all; done) | (simp only [eq_false h1, eq_false h2, eq_true h3, eq_false h9, eq_false h11, eq_false h13, if_true, if_false, reduceIte]; simp_all; done) | (simp only [eq_false h1, eq_false h2, eq_true h3, eq_false h9, eq_false h11, eq_false h13, if_true, if_false, reduceIte]; simp_all; decide) | (simp_all; decide) | (simp_all; rfl) | grind) (rfl)
    · refine e_0 rfl ?_
      refine e_42 rfl ?_
      refine e_5 rfl rfl ?_
      refine e_2 rfl rfl ?_
      refine e_2 rfl rfl ?_
      refine e_s1 rfl rfl rfl (Nat.le_of_ble_eq_true rfl) (sm_needs k) ?_
      refine e_39 rfl (fun h14 => ?_) (fun h14 => ?_)
      · refine e_2 rfl rfl ?_
        refine e_5 rfl rfl ?_
        refine e_2 rfl rfl ?_
        refine e_0 rfl ?_
        refine e_41 rfl (fun h15 => ?_) (fun h15 => ?_)
        · refine e_2 rfl rfl ?_
          exact e_ri rfl rfl (by unfold pumpsM byM; first | (simp_all; done) | (simp only [eq_false h1, eq_true h2, eq_true h14, eq_true h15, if_true, if_false, reduceIte]; simp_all; done) | (simp only [eq_false h1, eq_true h2, eq_true h14, eq_true h15, if_true, if_false, reduceIte]; simp_all; decide) | (simp_all; decide) | (simp_all; rfl) | grind) (rfl)
        · refine e_2 rfl rfl ?_
          refine e_0 rfl ?_
          refine e_17 rfl (by first | decide | assumption) ?_
          refine e_42 rfl ?_
          exact e_ri rfl rfl (by unfold pumpsM byM; first | (simp_all; done) | (simp only [eq_false h1, eq_true h2, eq_true h14, eq_false h15, if_true, if_false, reduceIte]; simp_all; done) | (simp only [eq_false h1, eq_true h2, eq_true h14, eq_false h15, if_true, if_false, reduceIte]; simp_all; decide) | (simp_all; decide) | (simp_all; rfl) | grind) (rfl)
      · refine e_2 rfl rfl ?_
        refine e_0 rfl ?_
        refine e_36 rfl (fun h16 => ?_) (fun h16 => ?_)
        · refine e_2 rfl rfl ?_
          refine e_5 rfl rfl ?_
          refine e_2 rfl rfl ?_
          refine e_0 rfl ?_
          refine e_41 rfl (fun h17 => ?_) (fun h17 => ?_)
          · refine e_2 rfl rfl ?_
            exact e_ri rfl rfl (by unfold pumpsM byM; first | (simp_all; done) | (simp only [eq_false h1, eq_true h2, eq_false h14, eq_true h16, eq_true h17, if_true, if_false, reduceIte]; simp_all; done) | (simp only [eq_false h1, eq_true h2, eq_false h14, eq_true h16, eq_true h17, if_true, if_false, reduceIte]; simp_all; decide) | (simp_all; decide) | (simp_all; rfl) | grind) (rfl)
          · refine e_2 rfl rfl ?_
            refine e_0 rfl ?_
            refine e_17 rfl (by first | decide | assumption) ?_
            refine e_42 rfl ?_
            exact e_ri rfl rfl (by unfold pumpsM byM; first | (simp_all; done) | (simp only [eq_false h1, eq_true h2, eq_false h14, eq_true h16, eq_false h17, if_true, if_false, reduceIte]; simp_all; done) | (simp only [eq_false h1, eq_true h2, eq_false h14, eq_true h16, eq_false h17, if_true, if_false, reduceIte]; simp_all; decide) | (simp_all; decide) | (simp_all; rfl) | grind) (rfl)
        · refine e_2 rfl rfl ?_
          refine e_0 rfl ?_
          refine e_17 rfl (by first | decide | assumption) ?_
          refine e_42 rfl ?_
          refine e_5 rfl rfl ?_
          refine e_2 rfl rfl ?_
          refine e_0 rfl ?_
          refine e_41 rfl (fun h18 => ?_) (fun h18 => ?_)
          · refine e_2 rfl rfl ?_
            exact e_ri rfl rfl (by unfold pumpsM byM; first | (simp_all; done) | (simp only [eq_false h1, eq_true h2, eq_false h14, eq_false h16, eq_true h18, if_true, if_false, reduceIte]; simp_all; done) | (simp only [eq_false h1, eq_true h2, eq_false h14, eq_false h16, eq_true h18, if_true, if_false, reduceIte]; simp_all; decide) | (simp_all; decide) | (simp_all; rfl) | grind) (rfl)
          · refine e_2 rfl rfl ?_
            refine e_0 rfl ?_
            refine e_17 rfl (by first | decide | assumption) ?_
            refine e_42 rfl ?_
            exact e_ri rfl rfl (by unfold pumpsM byM; first | (simp_all; done) | (simp only [eq_false h1, eq_true h2, eq_false h14, eq_false h16, eq_false h18, if_true, if_false, reduceIte]; simp_all; done) | (simp only [eq_false h1, eq_true h2, eq_false h14, eq_false h16, eq_false h18, if_true, if_false, reduceIte]; simp_all; decide) | (simp_all; decide) | (simp_all; rfl) | grind) (rfl)
  · refine e_0 rfl ?_
    refine e_42 rfl ?_
    refine e_5 rfl rfl ?_
    refine e_2 rfl rfl ?_
    refine e_2 rfl rfl ?_
    refine e_s1 rfl rfl rfl (Nat.le_of_ble_eq_true rfl) (sm_needs k) ?_
    refine e_39 rfl (fun h19 => ?_) (fun h19 => ?_)
    · refine e_2 rfl rfl ?_
      refine e_5 rfl rfl ?_
      refine e_2 rfl rfl ?_
      refine e_0 rfl ?_
      refine e_41 rfl (fun h20 => ?_) (fun h20 => ?_)
      · refine e_2 rfl rfl ?_
        exact e_ri rfl rfl (by unfold pumpsM byM; first | (simp_all; done) | (simp only [eq_true h1, eq_true h19, eq_true h20, if_true, if_false, reduceIte]; simp_all; done) | (simp only [eq_true h1, eq_true h19, eq_true h20, if_true, if_false, reduceIte]; simp_all; decide) | (simp_all; decide) | (simp_all; rfl) | grind) (rfl)
      · refine e_2 rfl rfl ?_
        refine e_0 rfl ?_
        refine e_17 rfl (by first | decide | assumption) ?_
        refine e_42 rfl ?_
        exact e_ri rfl rfl (by unfold pumpsM byM; first | (simp_all; done) | (simp only [eq_true h1, eq_true h19, eq_false h20, if_true, if_false, reduceIte]; simp_all; done) | (simp only [eq_true h1, eq_true h19, eq_false h20, if_true, if_false, reduceIte]; simp_all; decide) | (simp_all; decide) | (simp_all; rfl) | grind) (rfl)
    · refine e_2 rfl rfl ?_
      refine e_0 rfl ?_
      refine e_36 rfl (fun h21 => ?_) (fun h21 => ?_)
      · refine e_2 rfl rfl ?_
        refine e_5 rfl rfl ?_
        refine e_2 rfl rfl ?_
        refine e_0 rfl ?_
        refine e_41 rfl (fun h22 => ?_) (fun h22 => ?_)
        · refine e_2 rfl rfl ?_
          exact e_ri rfl rfl (by unfold pumpsM byM; first | (simp_all; done) | (simp only [eq_true h1, eq_false h19, eq_true h21, eq_true h22, if_true, if_false, reduceIte]; simp_all; done) | (simp only [eq_true h1, eq_false h19, eq_true h21, eq_true h22, if_true, if_false, reduceIte]; simp_all; decide) | (simp_all; decide) | (simp_all; rfl) | grind) (rfl)
        · refine e_2 rfl rfl ?_
          refine e_0 rfl ?_
          refine e_17 rfl (by first | decide | assumption) ?_
          refine e_42 rfl ?_
          exact e_ri rfl rfl (by unfold pumpsM byM; first | (simp_all; done) | (simp only [eq_true h1, eq_false h19, eq_true h21, eq_false h22, if_true, if_false, reduceIte]; simp_all; done) | (simp only [eq_true h1, eq_false h19, eq_true h21, eq_false h22, if_true, if_false, reduceIte]; simp_all; decide) | (simp_all; decide) | (simp_all; rfl) | grind) (rfl)
      · refine e_2 rfl rfl ?_
        refine e_0 rfl ?_
        refine e_17 rfl (by first | decide | assumption) ?_
        refine e_42 rfl ?_
        refine e_5 rfl rfl ?_
        refine e_2 rfl rfl ?_
        refine e_0 rfl ?_
        refine e_41 rfl (fun h23 => ?_) (fun h23 => ?_)
        · refine e_2 rfl rfl ?_
          exact e_ri rfl rfl (by unfold pumpsM byM; first | (simp_all; done) | (simp only [eq_true h1, eq_false h19, eq_false h21, eq_true h23, if_true, if_false, reduceIte]; simp_all; done) | (simp only [eq_true h1, eq_false h19, eq_false h21, eq_true h23, if_true, if_false, reduceIte]; simp_all; decide) | (simp_all; decide) | (simp_all; rfl) | grind) (rfl)
        · refine e_2 rfl rfl ?_
          refine e_0 rfl ?_
          refine e_17 rfl (by first | decide | assumption) ?_
          refine e_42 rfl ?_
          exact e_ri rfl rfl (by unfold pumpsM byM; first | (simp_all; done) | (simp only [eq_true h1, eq_false h19, eq_false h21, eq_false h23, if_true, if_false, reduceIte]; simp_all; done) | (simp only [eq_true h1, eq_false h19, eq_false h21, eq_false h23, if_true, if_false, reduceIte]; simp_all; decide) | (simp_all; decide) | (simp_all; rfl) | grind) (rfl)
theorem sm_behind (k s : Int32) : ps_Ev (ps_XX L xs) (d + 3) j_X8_behind [.int k, .int s] μ (some (.int (behindM k s))) μ := by
  refine ⟨Nat.le_of_ble_eq_true rfl, ?_⟩
  refine e_2 rfl rfl ?_
  refine e_2 rfl rfl ?_
  refine e_s1 rfl rfl rfl (Nat.le_of_ble_eq_true rfl) (sm_needs k) ?_
  refine e_39 rfl (fun h1 => ?_) (fun h1 => ?_)
  · refine e_2 rfl rfl ?_
    refine e_2 rfl rfl ?_
    refine e_s1 rfl rfl rfl (Nat.le_of_ble_eq_true rfl) (sm_needs k) ?_
    refine e_10 rfl ?_
    exact e_ri rfl rfl (by unfold behindM; simp only [eq_true h1, if_true, if_false, reduceIte]) (rfl)
  · refine e_0 rfl ?_
    refine e_42 rfl ?_
    exact e_ri rfl rfl (by unfold behindM; simp only [eq_false h1, if_true, if_false, reduceIte]) (rfl)
theorem sm_letter (c : Int32) : ps_Ev (ps_XX L xs) (d + 1) j_X8_kindOfLetter [.int c] μ (some (.int (letterM c))) μ := by
  refine ⟨Nat.le_of_ble_eq_true rfl, ?_⟩
  refine e_2 rfl rfl ?_
  refine e_0 rfl ?_
  refine e_37 rfl (fun h1 => ?_) (fun h1 => ?_)
  · refine e_2 rfl rfl ?_
    refine e_0 rfl ?_
    refine e_37 rfl (fun h2 => ?_) (fun h2 => ?_)
    · refine e_2 rfl rfl ?_
      refine e_0 rfl ?_
      refine e_37 rfl (fun h3 => ?_) (fun h3 => ?_)
      · refine e_2 rfl rfl ?_
        refine e_0 rfl ?_
        refine e_37 rfl (fun h4 => ?_) (fun h4 => ?_)
        · refine e_2 rfl rfl ?_
          refine e_0 rfl ?_
          refine e_37 rfl (fun h5 => ?_) (fun h5 => ?_)
          · refine e_2 rfl rfl ?_
            refine e_0 rfl ?_
            refine e_37 rfl (fun h6 => ?_) (fun h6 => ?_)
            · refine e_0 rfl ?_
              exact e_ri rfl rfl (by unfold letterM; simp only [eq_false h1, eq_false h2, eq_false h3, eq_false h4, eq_false h5, eq_false h6, if_true, if_false, reduceIte]) (rfl)
            · refine e_0 rfl ?_
              refine e_42 rfl ?_
              exact e_ri rfl rfl (by unfold letterM; simp only [eq_false h1, eq_false h2, eq_false h3, eq_false h4, eq_false h5, eq_true h6, if_true, if_false, reduceIte]) (rfl)
          · refine e_0 rfl ?_
            refine e_42 rfl ?_
            exact e_ri rfl rfl (by unfold letterM; simp only [eq_false h1, eq_false h2, eq_false h3, eq_false h4, eq_true h5, if_true, if_false, reduceIte]) (rfl)
        · refine e_0 rfl ?_
          refine e_42 rfl ?_
          exact e_ri rfl rfl (by unfold letterM; simp only [eq_false h1, eq_false h2, eq_false h3, eq_true h4, if_true, if_false, reduceIte]) (rfl)
      · refine e_0 rfl ?_
        refine e_42 rfl ?_
        exact e_ri rfl rfl (by unfold letterM; simp only [eq_false h1, eq_false h2, eq_true h3, if_true, if_false, reduceIte]) (rfl)
    · refine e_0 rfl ?_
      refine e_42 rfl ?_
      exact e_ri rfl rfl (by unfold letterM; simp only [eq_false h1, eq_true h2, if_true, if_false, reduceIte]) (rfl)
  · refine e_0 rfl ?_
    refine e_42 rfl ?_
    exact e_ri rfl rfl (by unfold letterM; simp only [eq_true h1, if_true, if_false, reduceIte]) (rfl)
theorem sm_isChance (a n q : Int32) : ps_Ev (ps_XX L xs) (d + 3) j_X8_isChance [.int a, .int n, .int q] μ (some (.int (b2i ((0 ≤ a ∧ a ≤ 9) ∧ (0 ≤ n ∧ n ≤ 8) ∧ (0 ≤ q ∧ q ≤ 12))))) μ := by
  refine ⟨Nat.le_of_ble_eq_true rfl, ?_⟩
  refine e_2 rfl rfl ?_
  refine e_s1 rfl rfl rfl (Nat.le_of_ble_eq_true rfl) (sm_isAct a) ?_
  refine e_30b rfl (fun h1 => ?_) (fun h1 => ?_)
  · refine e_0 rfl ?_
    exact e_rz rfl rfl (by first | decide | exact b2i_01 | assumption) (by first | rfl | (simp only [eq_false h1, if_true, if_true, if_false, ite_true, ite_false, not_true_eq_false, not_false_eq_true, and_true, true_and, and_false, false_and, or_true, true_or, or_false, false_or, Classical.not_not, b2i, reduceIte]; done) | grind [b2i]) (rfl)
  · refine e_2 rfl rfl ?_
    refine e_25 rfl ?_
    refine e_1 rfl ?_
    refine e_1 rfl ?_
    refine e_s3 rfl rfl rfl (Nat.le_of_ble_eq_true rfl) (by first | exact sm_in n 0 8 (by decide) (by decide) | exact sm_in q 0 12 (by decide) (by decide)) ?_
    refine e_30b rfl (fun h2 => ?_) (fun h2 => ?_)
    · refine e_0 rfl ?_
      exact e_rz rfl rfl (by first | decide | exact b2i_01 | assumption) (by first | rfl | (simp only [eq_true h1, eq_false h2, if_true, if_true, if_false, ite_true, ite_false, not_true_eq_false, not_false_eq_true, and_true, true_and, and_false, false_and, or_true, true_or, or_false, false_or, Classical.not_not, b2i, reduceIte]; done) | grind [b2i]) (rfl)
    · refine e_2 rfl rfl ?_
      refine e_25 rfl ?_
      refine e_1 rfl ?_
      refine e_1 rfl ?_
      refine e_s3 rfl rfl rfl (Nat.le_of_ble_eq_true rfl) (by first | exact sm_in n 0 8 (by decide) (by decide) | exact sm_in q 0 12 (by decide) (by decide)) ?_
      refine e_30b rfl (fun h3 => ?_) (fun h3 => ?_)
      · refine e_0 rfl ?_
        exact e_rz rfl rfl (by first | decide | exact b2i_01 | assumption) (by first | rfl | (simp only [eq_true h1, eq_true h2, eq_false h3, if_true, if_true, if_false, ite_true, ite_false, not_true_eq_false, not_false_eq_true, and_true, true_and, and_false, false_and, or_true, true_or, or_false, false_or, Classical.not_not, b2i, reduceIte]; done) | grind [b2i]) (rfl)
      · refine e_0 rfl ?_
        refine e_42 rfl ?_
        exact e_rz rfl rfl (by first | decide | exact b2i_01 | assumption) (by first | rfl | (simp only [eq_true h1, eq_true h2, eq_true h3, if_true, if_true, if_false, ite_true, ite_false, not_true_eq_false, not_false_eq_true, and_true, true_and, and_false, false_and, or_true, true_or, or_false, false_or, Classical.not_not, b2i, reduceIte]; done) | grind [b2i]) (rfl)
end MLF
