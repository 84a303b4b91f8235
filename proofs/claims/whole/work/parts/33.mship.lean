-- ===== the model's ship methods over the numbers =====
def leakM (σ : Nat → Int32) : Int32 := if σ 7 = 1 then (if 0 ≤ σ 1 + σ 0 / 25 - σ 3 / 2 then σ 1 + σ 0 / 25 - σ 3 / 2 else 0) / 2 else (if 0 ≤ σ 1 + σ 0 / 25 - σ 3 / 2 then σ 1 + σ 0 / 25 - σ 3 / 2 else 0)
section MSM
variable {L : Nat} {xs : Nat → Int32} {d : Nat} {μ : ps_M} {m B : Nat} {σ : Nat → Int32} {g : Nat}
theorem mm_leaking (hm : isMd μ m) (hB : B ≤ 1832) : ps_Ev (ps_XX L xs) (d + 1) j_X8_leaking [.ref m, .int (nI B)] (MS μ m B σ) (some (.int (leakM σ))) (MS μ m B (σ)) := by
  refine ⟨Nat.le_of_ble_eq_true rfl, ?_⟩
  refine e_4 rfl rfl ?_
  refine m_leak hm rfl rfl ?_
  refine e_4 rfl rfl ?_
  refine m_row hm rfl rfl ?_
  refine e_2 rfl rfl ?_
  refine e_0 rfl ?_
  refine e_9 rfl ?_
  refine m_ald (k := 1) (x := 0) hm hB (by simp only [nq_0, nq_1, nq_2, nq_3, nq_4, nq_5, nq_6, nq_12, nI_add]; first | done | exact congrArg nI (by omega)) (by omega) (by first | rfl | (rw [mdX_lo (by omega) (by omega)]; omega) | (rw [mdX_hi (by omega)]; omega)) rfl ?_
  refine e_0 rfl ?_
  refine e_17 rfl (by first | decide | assumption) ?_
  refine e_9 rfl ?_
  refine e_4 rfl rfl ?_
  refine m_row hm rfl rfl ?_
  refine e_2 rfl rfl ?_
  refine e_0 rfl ?_
  refine e_9 rfl ?_
  refine m_ald (k := 3) (x := 3) hm hB (by simp only [nq_0, nq_1, nq_2, nq_3, nq_4, nq_5, nq_6, nq_12, nI_add]; first | done | exact congrArg nI (by omega)) (by omega) (by first | rfl | (rw [mdX_lo (by omega) (by omega)]; omega) | (rw [mdX_hi (by omega)]; omega)) rfl ?_
  refine e_0 rfl ?_
  refine e_17 rfl (by first | decide | assumption) ?_
  refine e_10 rfl ?_
  refine e_5 rfl rfl ?_
  refine e_2 rfl rfl ?_
  refine e_33 rfl (fun h1 => ?_) (fun h1 => ?_)
  · refine e_2 rfl rfl ?_
    refine e_5 rfl rfl ?_
    refine e_4 rfl rfl ?_
    refine m_row hm rfl rfl ?_
    refine e_2 rfl rfl ?_
    refine e_0 rfl ?_
    refine e_9 rfl ?_
    refine m_ald (k := 4) (x := 7) hm hB (by simp only [nq_0, nq_1, nq_2, nq_3, nq_4, nq_5, nq_6, nq_12, nI_add]; first | done | exact congrArg nI (by omega)) (by omega) (by first | rfl | (rw [mdX_lo (by omega) (by omega)]; omega) | (rw [mdX_hi (by omega)]; omega)) rfl ?_
    refine e_0 rfl ?_
    refine e_37 rfl (fun h2 => ?_) (fun h2 => ?_)
    · refine e_2 rfl rfl ?_
      exact e_ri rfl rfl (by unfold leakM; simp only [eq_true h1, eq_false h2, if_true, if_false, reduceIte]) (rfl)
    · refine e_2 rfl rfl ?_
      refine e_0 rfl ?_
      refine e_17 rfl (by first | decide | assumption) ?_
      refine e_42 rfl ?_
      exact e_ri rfl rfl (by unfold leakM; simp only [eq_true h1, eq_true h2, if_true, if_false, reduceIte]) (rfl)
  · refine e_0 rfl ?_
    refine e_42 rfl ?_
    refine e_5 rfl rfl ?_
    refine e_4 rfl rfl ?_
    refine m_row hm rfl rfl ?_
    refine e_2 rfl rfl ?_
    refine e_0 rfl ?_
    refine e_9 rfl ?_
    refine m_ald (k := 4) (x := 7) hm hB (by simp only [nq_0, nq_1, nq_2, nq_3, nq_4, nq_5, nq_6, nq_12, nI_add]; first | done | exact congrArg nI (by omega)) (by omega) (by first | rfl | (rw [mdX_lo (by omega) (by omega)]; omega) | (rw [mdX_hi (by omega)]; omega)) rfl ?_
    refine e_0 rfl ?_
    refine e_37 rfl (fun h3 => ?_) (fun h3 => ?_)
    · refine e_2 rfl rfl ?_
      exact e_ri rfl rfl (by unfold leakM; simp only [eq_false h1, eq_false h3, if_true, if_false, reduceIte]) (rfl)
    · refine e_2 rfl rfl ?_
      refine e_0 rfl ?_
      refine e_17 rfl (by first | decide | assumption) ?_
      refine e_42 rfl ?_
      exact e_ri rfl rfl (by unfold leakM; simp only [eq_false h1, eq_true h3, if_true, if_false, reduceIte]) (rfl)
theorem mm_isSunk (hm : isMd μ m) (hB : B ≤ 1832) : ps_Ev (ps_XX L xs) (d + 1) j_X8_isSunk [.ref m, .int (nI B)] (MS μ m B σ) (some (.int (b2i (sunkF σ)))) (MS μ m B (σ)) := by
  refine ⟨Nat.le_of_ble_eq_true rfl, ?_⟩
  refine e_4 rfl rfl ?_
  refine m_row hm rfl rfl ?_
  refine e_2 rfl rfl ?_
  refine e_0 rfl ?_
  refine e_9 rfl ?_
  refine m_ald (k := 1) (x := 0) hm hB (by simp only [nq_0, nq_1, nq_2, nq_3, nq_4, nq_5, nq_6, nq_12, nI_add]; first | done | exact congrArg nI (by omega)) (by omega) (by first | rfl | (rw [mdX_lo (by omega) (by omega)]; omega) | (rw [mdX_hi (by omega)]; omega)) rfl ?_
  refine e_0 rfl ?_
  refine e_41 rfl (fun h1 => ?_) (fun h1 => ?_)
  · refine e_0 rfl ?_
    exact e_rz rfl rfl (by first | decide | exact b2i_01 | assumption) (by first | rfl | (simp only [eq_true h1, if_true, if_true, if_false, ite_true, ite_false, not_true_eq_false, not_false_eq_true, and_true, true_and, and_false, false_and, or_true, true_or, or_false, false_or, Classical.not_not, b2i, reduceIte]; done) | grind [b2i]) (rfl)
  · refine e_0 rfl ?_
    refine e_42 rfl ?_
    exact e_rz rfl rfl (by first | decide | exact b2i_01 | assumption) (by first | rfl | (simp only [eq_false h1, if_true, if_true, if_false, ite_true, ite_false, not_true_eq_false, not_false_eq_true, and_true, true_and, and_false, false_and, or_true, true_or, or_false, false_or, Classical.not_not, b2i, reduceIte]; done) | grind [b2i]) (rfl)
theorem mm_isOver (hm : isMd μ m) (hB : B ≤ 1832) : ps_Ev (ps_XX L xs) (d + 2) j_X8_isOver [.ref m, .int (nI B)] (MS μ m B σ) (some (.int (b2i (sunkF σ ∨ σ 5 = σ 4)))) (MS μ m B (σ)) := by
  refine ⟨Nat.le_of_ble_eq_true rfl, ?_⟩
  refine e_4 rfl rfl ?_
  refine e_2 rfl rfl ?_
  refine e_v1 rfl (by first | exact hm.1 | assumption | rfl) rfl (by decide) rfl (Nat.le_of_ble_eq_true rfl) (mm_isSunk hm hB) ?_
  refine e_31b rfl (fun h1 => ?_) (fun h1 => ?_)
  · refine e_0 rfl ?_
    refine e_42 rfl ?_
    exact e_rz rfl rfl (by first | decide | exact b2i_01 | assumption) (by first | rfl | (simp only [eq_true h1, if_true, if_true, if_false, ite_true, ite_false, not_true_eq_false, not_false_eq_true, and_true, true_and, and_false, false_and, or_true, true_or, or_false, false_or, Classical.not_not, b2i, reduceIte]; done) | grind [b2i]) (rfl)
  · refine e_4 rfl rfl ?_
    refine m_row hm rfl rfl ?_
    refine e_2 rfl rfl ?_
    refine e_0 rfl ?_
    refine e_9 rfl ?_
    refine m_ald (k := 0) (x := 5) hm hB (by simp only [nq_0, nq_1, nq_2, nq_3, nq_4, nq_5, nq_6, nq_12, nI_add]; first | done | exact congrArg nI (by omega)) (by omega) (by first | rfl | (rw [mdX_lo (by omega) (by omega)]; omega) | (rw [mdX_hi (by omega)]; omega)) rfl ?_
    refine e_4 rfl rfl ?_
    refine m_land hm rfl rfl ?_
    refine e_37 rfl (fun h2 => ?_) (fun h2 => ?_)
    · refine e_0 rfl ?_
      exact e_rz rfl rfl (by first | decide | exact b2i_01 | assumption) (by first | rfl | (simp only [eq_false h1, eq_false h2, if_true, if_true, if_false, ite_true, ite_false, not_true_eq_false, not_false_eq_true, and_true, true_and, and_false, false_and, or_true, true_or, or_false, false_or, Classical.not_not, b2i, reduceIte]; done) | grind [b2i]) (rfl)
    · refine e_0 rfl ?_
      refine e_42 rfl ?_
      exact e_rz rfl rfl (by first | decide | exact b2i_01 | assumption) (by first | rfl | (simp only [eq_false h1, eq_true h2, if_true, if_true, if_false, ite_true, ite_false, not_true_eq_false, not_false_eq_true, and_true, true_and, and_false, false_and, or_true, true_or, or_false, false_or, Classical.not_not, b2i, reduceIte]; done) | grind [b2i]) (rfl)
theorem mm_isGang (hm : isMd μ m) (hB : B ≤ 1832) (a : Int32) : ps_Ev (ps_XX L xs) (d + 2) j_X8_isGang [.ref m, .int a] (MS μ m B σ) (some (.int (b2i (0 ≤ a ∧ a ≤ σ 8 - 1)))) (MS μ m B (σ)) := by
  refine ⟨Nat.le_of_ble_eq_true rfl, ?_⟩
  refine e_2 rfl rfl ?_
  refine e_25 rfl ?_
  refine e_1 rfl ?_
  refine e_4 rfl rfl ?_
  refine m_gangs hm rfl rfl ?_
  refine e_0 rfl ?_
  refine e_10 rfl ?_
  refine e_25 rfl ?_
  refine e_s3 rfl rfl rfl (Nat.le_of_ble_eq_true rfl) (sm_in a 0 (σ 8 - 1) (by decide) rfl) ?_
  exact e_rz rfl rfl (by first | decide | exact b2i_01 | assumption) (by rfl) (rfl)
theorem mm_may (hm : isMd μ m) (hB : B ≤ 1832) (a : Int32) : ps_Ev (ps_XX L xs) (d + 3) j_X8_may [.ref m, .int (nI B), .int a] (MS μ m B σ) (some (.int (b2i ((0 ≤ a ∧ a ≤ σ 8 - 1) ∨ (a = 7 ∧ 0 < σ 2) ∨ (a = 8 ∧ σ 7 = 0) ∨ a = 6 ∨ a = 9)))) (MS μ m B (σ)) := by
  refine ⟨Nat.le_of_ble_eq_true rfl, ?_⟩
  refine e_4 rfl rfl ?_
  refine e_2 rfl rfl ?_
  refine e_v1 rfl (by first | exact hm.1 | assumption | rfl) rfl (by decide) rfl (Nat.le_of_ble_eq_true rfl) (mm_isGang hm hB a) ?_
  refine e_31b rfl (fun h1 => ?_) (fun h1 => ?_)
  · refine e_0 rfl ?_
    refine e_42 rfl ?_
    exact e_rz rfl rfl (by first | decide | exact b2i_01 | assumption) (by first | rfl | (simp only [eq_true h1, if_true, if_true, if_false, ite_true, ite_false, not_true_eq_false, not_false_eq_true, and_true, true_and, and_false, false_and, or_true, true_or, or_false, false_or, Classical.not_not, b2i, reduceIte]; done) | grind [b2i]) (rfl)
  · refine e_2 rfl rfl ?_
    refine e_0 rfl ?_
    refine e_37 rfl (fun h2 => ?_) (fun h2 => ?_)
    · refine e_2 rfl rfl ?_
      refine e_0 rfl ?_
      refine e_37 rfl (fun h3 => ?_) (fun h3 => ?_)
      · refine e_2 rfl rfl ?_
        refine e_0 rfl ?_
        refine e_36 rfl (fun h4 => ?_) (fun h4 => ?_)
        · refine e_0 rfl ?_
          refine e_42 rfl ?_
          exact e_rz rfl rfl (by first | decide | exact b2i_01 | assumption) (by first | rfl | (simp only [eq_false h1, eq_false h2, eq_false h3, eq_true h4, if_true, if_true, if_false, ite_true, ite_false, not_true_eq_false, not_false_eq_true, and_true, true_and, and_false, false_and, or_true, true_or, or_false, false_or, Classical.not_not, b2i, reduceIte]; done) | grind [b2i]) (rfl)
        · refine e_2 rfl rfl ?_
          refine e_0 rfl ?_
          refine e_37 rfl (fun h5 => ?_) (fun h5 => ?_)
          · refine e_0 rfl ?_
            exact e_rz rfl rfl (by first | decide | exact b2i_01 | assumption) (by first | rfl | (simp only [eq_false h1, eq_false h2, eq_false h3, eq_false h4, eq_false h5, if_true, if_true, if_false, ite_true, ite_false, not_true_eq_false, not_false_eq_true, and_true, true_and, and_false, false_and, or_true, true_or, or_false, false_or, Classical.not_not, b2i, reduceIte]; done) | grind [b2i]) (rfl)
          · refine e_0 rfl ?_
            refine e_42 rfl ?_
            exact e_rz rfl rfl (by first | decide | exact b2i_01 | assumption) (by first | rfl | (simp only [eq_false h1, eq_false h2, eq_false h3, eq_false h4, eq_true h5, if_true, if_true, if_false, ite_true, ite_false, not_true_eq_false, not_false_eq_true, and_true, true_and, and_false, false_and, or_true, true_or, or_false, false_or, Classical.not_not, b2i, reduceIte]; done) | grind [b2i]) (rfl)
      · refine e_4 rfl rfl ?_
        refine m_row hm rfl rfl ?_
        refine e_2 rfl rfl ?_
        refine e_0 rfl ?_
        refine e_9 rfl ?_
        refine m_ald (k := 4) (x := 7) hm hB (by simp only [nq_0, nq_1, nq_2, nq_3, nq_4, nq_5, nq_6, nq_12, nI_add]; first | done | exact congrArg nI (by omega)) (by omega) (by first | rfl | (rw [mdX_lo (by omega) (by omega)]; omega) | (rw [mdX_hi (by omega)]; omega)) rfl ?_
        refine e_30 rfl (fun h6 => ?_) (fun h6 => ?_)
        · refine e_0 rfl ?_
          refine e_42 rfl ?_
          exact e_rz rfl rfl (by first | decide | exact b2i_01 | assumption) (by first | rfl | (simp only [eq_false h1, eq_false h2, eq_true h3, eq_true h6, if_true, if_true, if_false, ite_true, ite_false, not_true_eq_false, not_false_eq_true, and_true, true_and, and_false, false_and, or_true, true_or, or_false, false_or, Classical.not_not, b2i, reduceIte]; done) | grind [b2i]) (rfl)
        · refine e_2 rfl rfl ?_
          refine e_0 rfl ?_
          refine e_36 rfl (fun h7 => ?_) (fun h7 => ?_)
          · refine e_0 rfl ?_
            refine e_42 rfl ?_
            exact e_rz rfl rfl (by first | decide | exact b2i_01 | assumption) (by first | rfl | (simp only [eq_false h1, eq_false h2, eq_true h3, eq_false h6, eq_true h7, if_true, if_true, if_false, ite_true, ite_false, not_true_eq_false, not_false_eq_true, and_true, true_and, and_false, false_and, or_true, true_or, or_false, false_or, Classical.not_not, b2i, reduceIte]; done) | grind [b2i]) (rfl)
          · refine e_2 rfl rfl ?_
            refine e_0 rfl ?_
            refine e_37 rfl (fun h8 => ?_) (fun h8 => ?_)
            · refine e_0 rfl ?_
              exact e_rz rfl rfl (by first | decide | exact b2i_01 | assumption) (by first | rfl | (simp only [eq_false h1, eq_false h2, eq_true h3, eq_false h6, eq_false h7, eq_false h8, if_true, if_true, if_false, ite_true, ite_false, not_true_eq_false, not_false_eq_true, and_true, true_and, and_false, false_and, or_true, true_or, or_false, false_or, Classical.not_not, b2i, reduceIte]; done) | grind [b2i]) (rfl)
            · refine e_0 rfl ?_
              refine e_42 rfl ?_
              exact e_rz rfl rfl (by first | decide | exact b2i_01 | assumption) (by first | rfl | (simp only [eq_false h1, eq_false h2, eq_true h3, eq_false h6, eq_false h7, eq_true h8, if_true, if_true, if_false, ite_true, ite_false, not_true_eq_false, not_false_eq_true, and_true, true_and, and_false, false_and, or_true, true_or, or_false, false_or, Classical.not_not, b2i, reduceIte]; done) | grind [b2i]) (rfl)
    · refine e_4 rfl rfl ?_
      refine m_row hm rfl rfl ?_
      refine e_2 rfl rfl ?_
      refine e_0 rfl ?_
      refine e_9 rfl ?_
      refine m_ald (k := 2) (x := 2) hm hB (by simp only [nq_0, nq_1, nq_2, nq_3, nq_4, nq_5, nq_6, nq_12, nI_add]; first | done | exact congrArg nI (by omega)) (by omega) (by first | rfl | (rw [mdX_lo (by omega) (by omega)]; omega) | (rw [mdX_hi (by omega)]; omega)) rfl ?_
      refine e_34 rfl (fun h9 => ?_) (fun h9 => ?_)
      · refine e_0 rfl ?_
        refine e_42 rfl ?_
        exact e_rz rfl rfl (by first | decide | exact b2i_01 | assumption) (by first | rfl | (simp only [eq_false h1, eq_true h2, eq_true h9, if_true, if_true, if_false, ite_true, ite_false, not_true_eq_false, not_false_eq_true, and_true, true_and, and_false, false_and, or_true, true_or, or_false, false_or, Classical.not_not, b2i, reduceIte]; done) | grind [b2i]) (rfl)
      · refine e_2 rfl rfl ?_
        refine e_0 rfl ?_
        refine e_37 rfl (fun h10 => ?_) (fun h10 => ?_)
        · refine e_2 rfl rfl ?_
          refine e_0 rfl ?_
          refine e_36 rfl (fun h11 => ?_) (fun h11 => ?_)
          · refine e_0 rfl ?_
            refine e_42 rfl ?_
            exact e_rz rfl rfl (by first | decide | exact b2i_01 | assumption) (by first | rfl | (simp only [eq_false h1, eq_true h2, eq_false h9, eq_false h10, eq_true h11, if_true, if_true, if_false, ite_true, ite_false, not_true_eq_false, not_false_eq_true, and_true, true_and, and_false, false_and, or_true, true_or, or_false, false_or, Classical.not_not, b2i, reduceIte]; done) | grind [b2i]) (rfl)
          · refine e_2 rfl rfl ?_
            refine e_0 rfl ?_
            refine e_37 rfl (fun h12 => ?_) (fun h12 => ?_)
            · refine e_0 rfl ?_
              exact e_rz rfl rfl (by first | decide | exact b2i_01 | assumption) (by first | rfl | (simp only [eq_false h1, eq_true h2, eq_false h9, eq_false h10, eq_false h11, eq_false h12, if_true, if_true, if_false, ite_true, ite_false, not_true_eq_false, not_false_eq_true, and_true, true_and, and_false, false_and, or_true, true_or, or_false, false_or, Classical.not_not, b2i, reduceIte]; done) | grind [b2i]) (rfl)
            · refine e_0 rfl ?_
              refine e_42 rfl ?_
              exact e_rz rfl rfl (by first | decide | exact b2i_01 | assumption) (by first | rfl | (simp only [eq_false h1, eq_true h2, eq_false h9, eq_false h10, eq_false h11, eq_true h12, if_true, if_true, if_false, ite_true, ite_false, not_true_eq_false, not_false_eq_true, and_true, true_and, and_false, false_and, or_true, true_or, or_false, false_or, Classical.not_not, b2i, reduceIte]; done) | grind [b2i]) (rfl)
        · refine e_4 rfl rfl ?_
          refine m_row hm rfl rfl ?_
          refine e_2 rfl rfl ?_
          refine e_0 rfl ?_
          refine e_9 rfl ?_
          refine m_ald (k := 4) (x := 7) hm hB (by simp only [nq_0, nq_1, nq_2, nq_3, nq_4, nq_5, nq_6, nq_12, nI_add]; first | done | exact congrArg nI (by omega)) (by omega) (by first | rfl | (rw [mdX_lo (by omega) (by omega)]; omega) | (rw [mdX_hi (by omega)]; omega)) rfl ?_
          refine e_30 rfl (fun h13 => ?_) (fun h13 => ?_)
          · refine e_0 rfl ?_
            refine e_42 rfl ?_
            exact e_rz rfl rfl (by first | decide | exact b2i_01 | assumption) (by first | rfl | (simp only [eq_false h1, eq_true h2, eq_false h9, eq_true h10, eq_true h13, if_true, if_true, if_false, ite_true, ite_false, not_true_eq_false, not_false_eq_true, and_true, true_and, and_false, false_and, or_true, true_or, or_false, false_or, Classical.not_not, b2i, reduceIte]; done) | grind [b2i]) (rfl)
          · refine e_2 rfl rfl ?_
            refine e_0 rfl ?_
            refine e_36 rfl (fun h14 => ?_) (fun h14 => ?_)
            · refine e_0 rfl ?_
              refine e_42 rfl ?_
              exact e_rz rfl rfl (by first | decide | exact b2i_01 | assumption) (by first | rfl | (simp only [eq_false h1, eq_true h2, eq_false h9, eq_true h10, eq_false h13, eq_true h14, if_true, if_true, if_false, ite_true, ite_false, not_true_eq_false, not_false_eq_true, and_true, true_and, and_false, false_and, or_true, true_or, or_false, false_or, Classical.not_not, b2i, reduceIte]; done) | grind [b2i]) (rfl)
            · refine e_2 rfl rfl ?_
              refine e_0 rfl ?_
              refine e_37 rfl (fun h15 => ?_) (fun h15 => ?_)
              · refine e_0 rfl ?_
                exact e_rz rfl rfl (by first | decide | exact b2i_01 | assumption) (by first | rfl | (simp only [eq_false h1, eq_true h2, eq_false h9, eq_true h10, eq_false h13, eq_false h14, eq_false h15, if_true, if_true, if_false, ite_true, ite_false, not_true_eq_false, not_false_eq_true, and_true, true_and, and_false, false_and, or_true, true_or, or_false, false_or, Classical.not_not, b2i, reduceIte]; done) | grind [b2i]) (rfl)
              · refine e_0 rfl ?_
                refine e_42 rfl ?_
                exact e_rz rfl rfl (by first | decide | exact b2i_01 | assumption) (by first | rfl | (simp only [eq_false h1, eq_true h2, eq_false h9, eq_true h10, eq_false h13, eq_false h14, eq_true h15, if_true, if_true, if_false, ite_true, ite_false, not_true_eq_false, not_false_eq_true, and_true, true_and, and_false, false_and, or_true, true_or, or_false, false_or, Classical.not_not, b2i, reduceIte]; done) | grind [b2i]) (rfl)
/-- what a ship of the game keeps to -/
def shOK (g : Nat) (σ : Nat → Int32) : Prop := g ≤ 6 ∧ σ 8 = nI g ∧ ∀ i, i < g → (∃ k, k < 6 ∧ σ (9 + i) = nI k) ∧ (∃ s, s ≤ 9 ∧ σ (21 + i) = nI s)
theorem needs_tb : ∀ k, k < 6 → needsM (nI k) = tbF 2 (nI k) := by decide
theorem by_tb : ∀ k, k < 6 → byM (nI k) = tbF 1 (nI k) := by decide
theorem chk_tb : ∀ k, k < 6 → (if nI k = 1 ∨ nI k = 4 then (2 : Int32) else 1) = tbF 3 (nI k) := by decide
theorem beh_tb : ∀ k, k < 6 → ∀ s, s < 10 → behindM (nI k) (nI s) = behF (nI k) (nI s) := by decide
theorem le4 {c : Int32} : c ≤ 4 ↔ c < 5 := by
  rw [Int32.le_iff_toInt_le, Int32.lt_iff_toInt_lt]
  show c.toInt ≤ 4 ↔ c.toInt < 5
  omega
theorem pumps_tb {k : Nat} (hk : k < 6) (s c : Int32) : pumpsM (nI k) s c = pumpF c (nI k) s := by
  unfold pumpsM pumpF
  rw [needs_tb k hk, by_tb k hk]
  by_cases h : c < 5
  · rw [if_pos h, if_pos (le4.mpr h)]
  · rw [if_neg h, if_neg (fun z => h (le4.mp z))]
theorem leak_tb (h7 : σ 7 = 0 ∨ σ 7 = 1) : leakM σ = leakF σ := by
  have e : ∀ x : Int32, (if 0 ≤ x then x else 0) = if 0 < x then x else 0 := by
    intro x
    by_cases h : 0 < x
    · rw [if_pos h, if_pos (Int32.le_of_lt h)]
    · rw [if_neg h]
      split
      · exact Int32.le_antisymm (Int32.not_lt.mp h) ‹_›
      · rfl
  unfold leakM leakF
  rw [e]
  rcases h7 with h | h <;> rw [h] <;> rfl
end MSM
