-- ===== leaves: small static methods, reads of a ship =====
section LEAF
variable {X : Nat → Nat × (Nat → Int32)} {d : Nat} {μ : ps_M}
theorem sp_isRow (r : Int32) : ps_Ev X (d + 1) j_X7_isRow [.int r] μ (some (.int (b2i (¬ r < 0 ∧ ¬ 6 ≤ r)))) μ := by
  refine ⟨Nat.le_of_ble_eq_true rfl, ?_⟩
  refine e_2 rfl rfl ?_
  refine e_32 rfl (fun h1 => ?_) (fun h1 => ?_)
  · refine e_0 rfl ?_
    exact e_rz rfl rfl (by first | decide | exact b2i_01 | assumption) (by first | rfl | (simp only [*, if_true, if_false, ite_true, ite_false, not_true_eq_false, not_false_eq_true, and_true, true_and, and_false, false_and, or_true, true_or, or_false, false_or, Classical.not_not, b2i, reduceIte]; done) | grind [b2i]) (rfl)
  · refine e_2 rfl rfl ?_
    refine e_0 rfl ?_
    refine e_39 rfl (fun h2 => ?_) (fun h2 => ?_)
    · refine e_0 rfl ?_
      exact e_rz rfl rfl (by first | decide | exact b2i_01 | assumption) (by first | rfl | (simp only [*, if_true, if_false, ite_true, ite_false, not_true_eq_false, not_false_eq_true, and_true, true_and, and_false, false_and, or_true, true_or, or_false, false_or, Classical.not_not, b2i, reduceIte]; done) | grind [b2i]) (rfl)
    · refine e_0 rfl ?_
      refine e_42 rfl ?_
      exact e_rz rfl rfl (by first | decide | exact b2i_01 | assumption) (by first | rfl | (simp only [*, if_true, if_false, ite_true, ite_false, not_true_eq_false, not_false_eq_true, and_true, true_and, and_false, false_and, or_true, true_or, or_false, false_or, Classical.not_not, b2i, reduceIte]; done) | grind [b2i]) (rfl)
theorem sp_isText (r : Int32) : ps_Ev X (d + 1) j_X7_isText [.int r] μ (some (.int (b2i (¬ r < 0 ∧ ¬ 4 ≤ r)))) μ := by
  refine ⟨Nat.le_of_ble_eq_true rfl, ?_⟩
  refine e_2 rfl rfl ?_
  refine e_32 rfl (fun h1 => ?_) (fun h1 => ?_)
  · refine e_0 rfl ?_
    exact e_rz rfl rfl (by first | decide | exact b2i_01 | assumption) (by first | rfl | (simp only [*, if_true, if_false, ite_true, ite_false, not_true_eq_false, not_false_eq_true, and_true, true_and, and_false, false_and, or_true, true_or, or_false, false_or, Classical.not_not, b2i, reduceIte]; done) | grind [b2i]) (rfl)
  · refine e_2 rfl rfl ?_
    refine e_0 rfl ?_
    refine e_39 rfl (fun h2 => ?_) (fun h2 => ?_)
    · refine e_0 rfl ?_
      exact e_rz rfl rfl (by first | decide | exact b2i_01 | assumption) (by first | rfl | (simp only [*, if_true, if_false, ite_true, ite_false, not_true_eq_false, not_false_eq_true, and_true, true_and, and_false, false_and, or_true, true_or, or_false, false_or, Classical.not_not, b2i, reduceIte]; done) | grind [b2i]) (rfl)
    · refine e_0 rfl ?_
      refine e_42 rfl ?_
      exact e_rz rfl rfl (by first | decide | exact b2i_01 | assumption) (by first | rfl | (simp only [*, if_true, if_false, ite_true, ite_false, not_true_eq_false, not_false_eq_true, and_true, true_and, and_false, false_and, or_true, true_or, or_false, false_or, Classical.not_not, b2i, reduceIte]; done) | grind [b2i]) (rfl)
theorem sp_isKept (r : Int32) : ps_Ev X (d + 1) j_X7_isKept [.int r] μ (some (.int (b2i (¬ r < 0 ∧ ¬ 3 ≤ r)))) μ := by
  refine ⟨Nat.le_of_ble_eq_true rfl, ?_⟩
  refine e_2 rfl rfl ?_
  refine e_32 rfl (fun h1 => ?_) (fun h1 => ?_)
  · refine e_0 rfl ?_
    exact e_rz rfl rfl (by first | decide | exact b2i_01 | assumption) (by first | rfl | (simp only [*, if_true, if_false, ite_true, ite_false, not_true_eq_false, not_false_eq_true, and_true, true_and, and_false, false_and, or_true, true_or, or_false, false_or, Classical.not_not, b2i, reduceIte]; done) | grind [b2i]) (rfl)
  · refine e_2 rfl rfl ?_
    refine e_0 rfl ?_
    refine e_39 rfl (fun h2 => ?_) (fun h2 => ?_)
    · refine e_0 rfl ?_
      exact e_rz rfl rfl (by first | decide | exact b2i_01 | assumption) (by first | rfl | (simp only [*, if_true, if_false, ite_true, ite_false, not_true_eq_false, not_false_eq_true, and_true, true_and, and_false, false_and, or_true, true_or, or_false, false_or, Classical.not_not, b2i, reduceIte]; done) | grind [b2i]) (rfl)
    · refine e_0 rfl ?_
      refine e_42 rfl ?_
      exact e_rz rfl rfl (by first | decide | exact b2i_01 | assumption) (by first | rfl | (simp only [*, if_true, if_false, ite_true, ite_false, not_true_eq_false, not_false_eq_true, and_true, true_and, and_false, false_and, or_true, true_or, or_false, false_or, Classical.not_not, b2i, reduceIte]; done) | grind [b2i]) (rfl)
theorem sp_isAct (r : Int32) : ps_Ev X (d + 1) j_X7_isAct [.int r] μ (some (.int (b2i (¬ r < 0 ∧ ¬ 10 ≤ r)))) μ := by
  refine ⟨Nat.le_of_ble_eq_true rfl, ?_⟩
  refine e_2 rfl rfl ?_
  refine e_32 rfl (fun h1 => ?_) (fun h1 => ?_)
  · refine e_0 rfl ?_
    exact e_rz rfl rfl (by first | decide | exact b2i_01 | assumption) (by first | rfl | (simp only [*, if_true, if_false, ite_true, ite_false, not_true_eq_false, not_false_eq_true, and_true, true_and, and_false, false_and, or_true, true_or, or_false, false_or, Classical.not_not, b2i, reduceIte]; done) | grind [b2i]) (rfl)
  · refine e_2 rfl rfl ?_
    refine e_0 rfl ?_
    refine e_39 rfl (fun h2 => ?_) (fun h2 => ?_)
    · refine e_0 rfl ?_
      exact e_rz rfl rfl (by first | decide | exact b2i_01 | assumption) (by first | rfl | (simp only [*, if_true, if_false, ite_true, ite_false, not_true_eq_false, not_false_eq_true, and_true, true_and, and_false, false_and, or_true, true_or, or_false, false_or, Classical.not_not, b2i, reduceIte]; done) | grind [b2i]) (rfl)
    · refine e_0 rfl ?_
      refine e_42 rfl ?_
      exact e_rz rfl rfl (by first | decide | exact b2i_01 | assumption) (by first | rfl | (simp only [*, if_true, if_false, ite_true, ite_false, not_true_eq_false, not_false_eq_true, and_true, true_and, and_false, false_and, or_true, true_or, or_false, false_or, Classical.not_not, b2i, reduceIte]; done) | grind [b2i]) (rfl)
theorem sp_isSunk {b z : Nat} (hs : ps_s μ b = (3, z)) : ps_Ev X (d + 1) j_X3_isSunk [.ref b] μ (some (.int (b2i (¬ ps_i μ b 0 ≤ 99)))) μ := by
  refine ⟨Nat.le_of_ble_eq_true rfl, ?_⟩
  refine e_4 rfl rfl ?_
  refine e_gi rfl (by first | assumption | rfl) rfl (by decide) ?_
  refine e_0 rfl ?_
  refine e_41 rfl (fun h1 => ?_) (fun h1 => ?_)
  · refine e_0 rfl ?_
    exact e_rz rfl rfl (by first | decide | exact b2i_01 | assumption) (by first | rfl | (simp only [*, if_true, if_false, ite_true, ite_false, not_true_eq_false, not_false_eq_true, and_true, true_and, and_false, false_and, or_true, true_or, or_false, false_or, Classical.not_not, b2i, reduceIte]; done) | grind [b2i]) (rfl)
  · refine e_0 rfl ?_
    refine e_42 rfl ?_
    exact e_rz rfl rfl (by first | decide | exact b2i_01 | assumption) (by first | rfl | (simp only [*, if_true, if_false, ite_true, ite_false, not_true_eq_false, not_false_eq_true, and_true, true_and, and_false, false_and, or_true, true_or, or_false, false_or, Classical.not_not, b2i, reduceIte]; done) | grind [b2i]) (rfl)
theorem sp_isTimeUp {b z : Nat} (hs : ps_s μ b = (3, z)) : ps_Ev X (d + 1) j_X3_isTimeUp [.ref b] μ (some (.int (b2i (¬ ps_i μ b 5 < ps_i μ b 4)))) μ := by
  refine ⟨Nat.le_of_ble_eq_true rfl, ?_⟩
  refine e_4 rfl rfl ?_
  refine e_gi rfl (by first | assumption | rfl) rfl (by decide) ?_
  refine e_4 rfl rfl ?_
  refine e_gi rfl (by first | assumption | rfl) rfl (by decide) ?_
  refine e_38 rfl (fun h1 => ?_) (fun h1 => ?_)
  · refine e_0 rfl ?_
    exact e_rz rfl rfl (by first | decide | exact b2i_01 | assumption) (by first | rfl | (simp only [*, if_true, if_false, ite_true, ite_false, not_true_eq_false, not_false_eq_true, and_true, true_and, and_false, false_and, or_true, true_or, or_false, false_or, Classical.not_not, b2i, reduceIte]; done) | grind [b2i]) (rfl)
  · refine e_0 rfl ?_
    refine e_42 rfl ?_
    exact e_rz rfl rfl (by first | decide | exact b2i_01 | assumption) (by first | rfl | (simp only [*, if_true, if_false, ite_true, ite_false, not_true_eq_false, not_false_eq_true, and_true, true_and, and_false, false_and, or_true, true_or, or_false, false_or, Classical.not_not, b2i, reduceIte]; done) | grind [b2i]) (rfl)
theorem sp_has {b z : Nat} (hs : ps_s μ b = (3, z)) (i : Int32) : ps_Ev X (d + 1) j_X3_has [.ref b, .int i] μ (some (.int (b2i (¬ i < 0 ∧ ¬ ps_i μ b 8 ≤ i)))) μ := by
  refine ⟨Nat.le_of_ble_eq_true rfl, ?_⟩
  refine e_2 rfl rfl ?_
  refine e_32 rfl (fun h1 => ?_) (fun h1 => ?_)
  · refine e_0 rfl ?_
    exact e_rz rfl rfl (by first | decide | exact b2i_01 | assumption) (by first | rfl | (simp only [*, if_true, if_false, ite_true, ite_false, not_true_eq_false, not_false_eq_true, and_true, true_and, and_false, false_and, or_true, true_or, or_false, false_or, Classical.not_not, b2i, reduceIte]; done) | grind [b2i]) (rfl)
  · refine e_2 rfl rfl ?_
    refine e_4 rfl rfl ?_
    refine e_gi rfl (by first | assumption | rfl) rfl (by decide) ?_
    refine e_39 rfl (fun h2 => ?_) (fun h2 => ?_)
    · refine e_0 rfl ?_
      exact e_rz rfl rfl (by first | decide | exact b2i_01 | assumption) (by first | rfl | (simp only [*, if_true, if_false, ite_true, ite_false, not_true_eq_false, not_false_eq_true, and_true, true_and, and_false, false_and, or_true, true_or, or_false, false_or, Classical.not_not, b2i, reduceIte]; done) | grind [b2i]) (rfl)
    · refine e_0 rfl ?_
      refine e_42 rfl ?_
      exact e_rz rfl rfl (by first | decide | exact b2i_01 | assumption) (by first | rfl | (simp only [*, if_true, if_false, ite_true, ite_false, not_true_eq_false, not_false_eq_true, and_true, true_and, and_false, false_and, or_true, true_or, or_false, false_or, Classical.not_not, b2i, reduceIte]; done) | grind [b2i]) (rfl)
theorem sp_isOver {b z : Nat} (hs : ps_s μ b = (3, z)) : ps_Ev X (d + 2) j_X3_isOver [.ref b] μ (some (.int (b2i (¬ ps_i μ b 0 ≤ 99 ∨ ¬ ps_i μ b 5 < ps_i μ b 4)))) μ := by
  refine ⟨Nat.le_of_ble_eq_true rfl, ?_⟩
  refine e_4 rfl rfl ?_
  refine e_v0 rfl (by first | assumption | rfl) rfl (by decide) rfl (Nat.le_of_ble_eq_true rfl) (sp_isSunk hs) ?_
  refine e_31b rfl (fun h1 => ?_) (fun h1 => ?_)
  · refine e_0 rfl ?_
    refine e_42 rfl ?_
    exact e_rz rfl rfl (by first | decide | exact b2i_01 | assumption) (by first | rfl | (simp only [*, if_true, if_false, ite_true, ite_false, not_true_eq_false, not_false_eq_true, and_true, true_and, and_false, false_and, or_true, true_or, or_false, false_or, Classical.not_not, b2i, reduceIte]; done) | grind [b2i]) (rfl)
  · refine e_4 rfl rfl ?_
    refine e_v0 rfl (by first | assumption | rfl) rfl (by decide) rfl (Nat.le_of_ble_eq_true rfl) (sp_isTimeUp hs) ?_
    refine e_30b rfl (fun h2 => ?_) (fun h2 => ?_)
    · refine e_0 rfl ?_
      exact e_rz rfl rfl (by first | decide | exact b2i_01 | assumption) (by first | rfl | (simp only [*, if_true, if_false, ite_true, ite_false, not_true_eq_false, not_false_eq_true, and_true, true_and, and_false, false_and, or_true, true_or, or_false, false_or, Classical.not_not, b2i, reduceIte]; done) | grind [b2i]) (rfl)
    · refine e_0 rfl ?_
      refine e_42 rfl ?_
      exact e_rz rfl rfl (by first | decide | exact b2i_01 | assumption) (by first | rfl | (simp only [*, if_true, if_false, ite_true, ite_false, not_true_eq_false, not_false_eq_true, and_true, true_and, and_false, false_and, or_true, true_or, or_false, false_or, Classical.not_not, b2i, reduceIte]; done) | grind [b2i]) (rfl)
theorem sp_isOf (own kind : Int32) : ps_Ev X (d + 1) j_X7_isOf [.int own, .int kind] μ (some (.int (b2i (own = kind ∨ (own = 4 ∧ kind = 1) ∨ (own = 5 ∧ kind = 2))))) μ := by
  refine ⟨Nat.le_of_ble_eq_true rfl, ?_⟩
  refine e_2 rfl rfl ?_
  refine e_2 rfl rfl ?_
  refine e_36 rfl (fun h1 => ?_) (fun h1 => ?_)
  · refine e_0 rfl ?_
    refine e_42 rfl ?_
    exact e_rz rfl rfl (by first | decide | exact b2i_01 | assumption) (by first | rfl | (simp only [*, if_true, if_false, ite_true, ite_false, not_true_eq_false, not_false_eq_true, and_true, true_and, and_false, false_and, or_true, true_or, or_false, false_or, Classical.not_not, b2i, reduceIte]; done) | grind [b2i]) (rfl)
  · refine e_2 rfl rfl ?_
    refine e_0 rfl ?_
    refine e_37 rfl (fun h2 => ?_) (fun h2 => ?_)
    · refine e_2 rfl rfl ?_
      refine e_0 rfl ?_
      refine e_37 rfl (fun h3 => ?_) (fun h3 => ?_)
      · refine e_0 rfl ?_
        exact e_rz rfl rfl (by first | decide | exact b2i_01 | assumption) (by first | rfl | (simp only [*, if_true, if_false, ite_true, ite_false, not_true_eq_false, not_false_eq_true, and_true, true_and, and_false, false_and, or_true, true_or, or_false, false_or, Classical.not_not, b2i, reduceIte]; done) | grind [b2i]) (rfl)
      · refine e_2 rfl rfl ?_
        refine e_0 rfl ?_
        refine e_37 rfl (fun h4 => ?_) (fun h4 => ?_)
        · refine e_0 rfl ?_
          exact e_rz rfl rfl (by first | decide | exact b2i_01 | assumption) (by first | rfl | (simp only [*, if_true, if_false, ite_true, ite_false, not_true_eq_false, not_false_eq_true, and_true, true_and, and_false, false_and, or_true, true_or, or_false, false_or, Classical.not_not, b2i, reduceIte]; done) | grind [b2i]) (rfl)
        · refine e_0 rfl ?_
          refine e_42 rfl ?_
          exact e_rz rfl rfl (by first | decide | exact b2i_01 | assumption) (by first | rfl | (simp only [*, if_true, if_false, ite_true, ite_false, not_true_eq_false, not_false_eq_true, and_true, true_and, and_false, false_and, or_true, true_or, or_false, false_or, Classical.not_not, b2i, reduceIte]; done) | grind [b2i]) (rfl)
    · refine e_2 rfl rfl ?_
      refine e_0 rfl ?_
      refine e_36 rfl (fun h5 => ?_) (fun h5 => ?_)
      · refine e_0 rfl ?_
        refine e_42 rfl ?_
        exact e_rz rfl rfl (by first | decide | exact b2i_01 | assumption) (by first | rfl | (simp only [*, if_true, if_false, ite_true, ite_false, not_true_eq_false, not_false_eq_true, and_true, true_and, and_false, false_and, or_true, true_or, or_false, false_or, Classical.not_not, b2i, reduceIte]; done) | grind [b2i]) (rfl)
      · refine e_2 rfl rfl ?_
        refine e_0 rfl ?_
        refine e_37 rfl (fun h6 => ?_) (fun h6 => ?_)
        · refine e_0 rfl ?_
          exact e_rz rfl rfl (by first | decide | exact b2i_01 | assumption) (by first | rfl | (simp only [*, if_true, if_false, ite_true, ite_false, not_true_eq_false, not_false_eq_true, and_true, true_and, and_false, false_and, or_true, true_or, or_false, false_or, Classical.not_not, b2i, reduceIte]; done) | grind [b2i]) (rfl)
        · refine e_2 rfl rfl ?_
          refine e_0 rfl ?_
          refine e_37 rfl (fun h7 => ?_) (fun h7 => ?_)
          · refine e_0 rfl ?_
            exact e_rz rfl rfl (by first | decide | exact b2i_01 | assumption) (by first | rfl | (simp only [*, if_true, if_false, ite_true, ite_false, not_true_eq_false, not_false_eq_true, and_true, true_and, and_false, false_and, or_true, true_or, or_false, false_or, Classical.not_not, b2i, reduceIte]; done) | grind [b2i]) (rfl)
          · refine e_0 rfl ?_
            refine e_42 rfl ?_
            exact e_rz rfl rfl (by first | decide | exact b2i_01 | assumption) (by first | rfl | (simp only [*, if_true, if_false, ite_true, ite_false, not_true_eq_false, not_false_eq_true, and_true, true_and, and_false, false_and, or_true, true_or, or_false, false_or, Classical.not_not, b2i, reduceIte]; done) | grind [b2i]) (rfl)
theorem sp_isChance (a n q : Int32) : ps_Ev X (d + 2) j_X7_isChance [.int a, .int n, .int q] μ (some (.int (b2i ((¬ a < 0 ∧ ¬ 10 ≤ a) ∧ ¬ n < 0 ∧ ¬ 8 < n ∧ ¬ q < 0 ∧ ¬ 12 < q)))) μ := by
  refine ⟨Nat.le_of_ble_eq_true rfl, ?_⟩
  refine e_2 rfl rfl ?_
  refine e_s1 rfl rfl rfl (Nat.le_of_ble_eq_true rfl) (sp_isAct a) ?_
  refine e_30b rfl (fun h1 => ?_) (fun h1 => ?_)
  · refine e_0 rfl ?_
    exact e_rz rfl rfl (by first | decide | exact b2i_01 | assumption) (by first | rfl | (simp only [*, if_true, if_false, ite_true, ite_false, not_true_eq_false, not_false_eq_true, and_true, true_and, and_false, false_and, or_true, true_or, or_false, false_or, Classical.not_not, b2i, reduceIte]; done) | grind [b2i]) (rfl)
  · refine e_2 rfl rfl ?_
    refine e_32 rfl (fun h2 => ?_) (fun h2 => ?_)
    · refine e_0 rfl ?_
      exact e_rz rfl rfl (by first | decide | exact b2i_01 | assumption) (by first | rfl | (simp only [*, if_true, if_false, ite_true, ite_false, not_true_eq_false, not_false_eq_true, and_true, true_and, and_false, false_and, or_true, true_or, or_false, false_or, Classical.not_not, b2i, reduceIte]; done) | grind [b2i]) (rfl)
    · refine e_2 rfl rfl ?_
      refine e_0 rfl ?_
      refine e_40 rfl (fun h3 => ?_) (fun h3 => ?_)
      · refine e_0 rfl ?_
        exact e_rz rfl rfl (by first | decide | exact b2i_01 | assumption) (by first | rfl | (simp only [*, if_true, if_false, ite_true, ite_false, not_true_eq_false, not_false_eq_true, and_true, true_and, and_false, false_and, or_true, true_or, or_false, false_or, Classical.not_not, b2i, reduceIte]; done) | grind [b2i]) (rfl)
      · refine e_2 rfl rfl ?_
        refine e_32 rfl (fun h4 => ?_) (fun h4 => ?_)
        · refine e_0 rfl ?_
          exact e_rz rfl rfl (by first | decide | exact b2i_01 | assumption) (by first | rfl | (simp only [*, if_true, if_false, ite_true, ite_false, not_true_eq_false, not_false_eq_true, and_true, true_and, and_false, false_and, or_true, true_or, or_false, false_or, Classical.not_not, b2i, reduceIte]; done) | grind [b2i]) (rfl)
        · refine e_2 rfl rfl ?_
          refine e_0 rfl ?_
          refine e_40 rfl (fun h5 => ?_) (fun h5 => ?_)
          · refine e_0 rfl ?_
            exact e_rz rfl rfl (by first | decide | exact b2i_01 | assumption) (by first | rfl | (simp only [*, if_true, if_false, ite_true, ite_false, not_true_eq_false, not_false_eq_true, and_true, true_and, and_false, false_and, or_true, true_or, or_false, false_or, Classical.not_not, b2i, reduceIte]; done) | grind [b2i]) (rfl)
          · refine e_0 rfl ?_
            refine e_42 rfl ?_
            exact e_rz rfl rfl (by first | decide | exact b2i_01 | assumption) (by first | rfl | (simp only [*, if_true, if_false, ite_true, ite_false, not_true_eq_false, not_false_eq_true, and_true, true_and, and_false, false_and, or_true, true_or, or_false, false_or, Classical.not_not, b2i, reduceIte]; done) | grind [b2i]) (rfl)
theorem sp_allows {b z : Nat} (hs : ps_s μ b = (3, z)) (a : Int32) : ps_Ev X (d + 2) j_X3_allows [.ref b, .int a] μ (some (.int (b2i (a = 6 ∨ a = 9 ∨ (a = 7 ∧ 0 < ps_i μ b 2) ∨ (a = 8 ∧ ps_i μ b 7 = 0) ∨ (¬ a < 0 ∧ ¬ ps_i μ b 8 ≤ a ∧ ¬ a = 6 ∧ ¬ a = 7 ∧ ¬ a = 8 ∧ ¬ a = 9))))) μ := by
  refine ⟨Nat.le_of_ble_eq_true rfl, ?_⟩
  refine e_2 rfl rfl ?_
  refine e_sw rfl rfl (fun h1 => ?_) (fun k t ht h1 => ?_)
  · have h1n6 : ¬ a = 6 := fun q => by subst q; revert h1; decide
    have h1n7 : ¬ a = 7 := fun q => by subst q; revert h1; decide
    have h1n8 : ¬ a = 8 := fun q => by subst q; revert h1; decide
    have h1n9 : ¬ a = 9 := fun q => by subst q; revert h1; decide
    refine e_4 rfl rfl ?_
    refine e_2 rfl rfl ?_
    refine e_v1 rfl (by first | assumption | rfl) rfl (by decide) rfl (Nat.le_of_ble_eq_true rfl) (sp_has hs a) ?_
    exact e_rz rfl rfl (by first | decide | exact b2i_01 | assumption) (by first | rfl | (simp only [*, if_true, if_false, ite_true, ite_false, not_true_eq_false, not_false_eq_true, and_true, true_and, and_false, false_and, or_true, true_or, or_false, false_or, Classical.not_not, b2i, reduceIte]; done) | grind [b2i]) (rfl)
  · match k, ht with
    | 0, ht =>
      cases ht
      obtain rfl : a = 6 := Int32.toInt_inj.mp (h1.trans rfl)
      refine e_0 rfl ?_
      exact e_rz rfl rfl (by first | decide | exact b2i_01 | assumption) (by first | rfl | (simp only [*, if_true, if_false, ite_true, ite_false, not_true_eq_false, not_false_eq_true, and_true, true_and, and_false, false_and, or_true, true_or, or_false, false_or, Classical.not_not, b2i, reduceIte]; done) | grind [b2i]) (rfl)
    | 1, ht =>
      cases ht
      obtain rfl : a = 7 := Int32.toInt_inj.mp (h1.trans rfl)
      refine e_4 rfl rfl ?_
      refine e_gi rfl (by first | assumption | rfl) rfl (by decide) ?_
      refine e_35 rfl (fun h2 => ?_) (fun h2 => ?_)
      · refine e_0 rfl ?_
        exact e_rz rfl rfl (by first | decide | exact b2i_01 | assumption) (by first | rfl | (simp only [*, if_true, if_false, ite_true, ite_false, not_true_eq_false, not_false_eq_true, and_true, true_and, and_false, false_and, or_true, true_or, or_false, false_or, Classical.not_not, b2i, reduceIte]; done) | grind [b2i]) (rfl)
      · refine e_0 rfl ?_
        refine e_42 rfl ?_
        exact e_rz rfl rfl (by first | decide | exact b2i_01 | assumption) (by first | rfl | (simp only [*, if_true, if_false, ite_true, ite_false, not_true_eq_false, not_false_eq_true, and_true, true_and, and_false, false_and, or_true, true_or, or_false, false_or, Classical.not_not, b2i, reduceIte]; done) | grind [b2i]) (rfl)
    | 2, ht =>
      cases ht
      obtain rfl : a = 8 := Int32.toInt_inj.mp (h1.trans rfl)
      refine e_4 rfl rfl ?_
      refine e_gi rfl (by first | assumption | rfl) rfl (by decide) ?_
      refine e_31 rfl (fun h3 => ?_) (fun h3 => ?_)
      · refine e_0 rfl ?_
        exact e_rz rfl rfl (by first | decide | exact b2i_01 | assumption) (by first | rfl | (simp only [*, if_true, if_false, ite_true, ite_false, not_true_eq_false, not_false_eq_true, and_true, true_and, and_false, false_and, or_true, true_or, or_false, false_or, Classical.not_not, b2i, reduceIte]; done) | grind [b2i]) (rfl)
      · refine e_0 rfl ?_
        refine e_42 rfl ?_
        exact e_rz rfl rfl (by first | decide | exact b2i_01 | assumption) (by first | rfl | (simp only [*, if_true, if_false, ite_true, ite_false, not_true_eq_false, not_false_eq_true, and_true, true_and, and_false, false_and, or_true, true_or, or_false, false_or, Classical.not_not, b2i, reduceIte]; done) | grind [b2i]) (rfl)
    | 3, ht =>
      cases ht
      obtain rfl : a = 9 := Int32.toInt_inj.mp (h1.trans rfl)
      refine e_0 rfl ?_
      exact e_rz rfl rfl (by first | decide | exact b2i_01 | assumption) (by first | rfl | (simp only [*, if_true, if_false, ite_true, ite_false, not_true_eq_false, not_false_eq_true, and_true, true_and, and_false, false_and, or_true, true_or, or_false, false_or, Classical.not_not, b2i, reduceIte]; done) | grind [b2i]) (rfl)
    | k + 4, ht => cases ht
end LEAF
