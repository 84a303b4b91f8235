-- ===== an hour of the model's =====
theorem passF_pt (g : Nat) (σ : Nat → Int32) (a : Int32) (k : Nat) : passF g σ a k = if k = 5 then σ 5 + 1 else if k = 0 then (if 0 < σ 0 + leakF σ - pumpedF σ a then σ 0 + leakF σ - pumpedF σ a else 0) else if k = 7 then (if ¬ hasF σ a ∧ a = 8 then 1 else σ 7) else if k = 3 then (if ¬ hasF σ a ∧ a = 7 then σ 3 + 1 else σ 3) else if k = 2 then (if ¬ hasF σ a ∧ a = 7 then σ 2 - 1 else σ 2) else if k = 6 then (if hasF σ a then σ 6 + tbF 3 (σ (9 + a.toNatClampNeg)) else if a = 6 then 0 else σ 6) else tiU σ a g k := by
  have lo : ∀ k, k < 21 → tiU σ a g k = σ k := fun k h => tiU_lo h
  have u : ∀ (f : Nat → Int32) (i : Nat) (x : Int32) (k : Nat), upd f i x k = if k = i then x else f k := fun _ _ _ _ => rfl
  have l0 := lo 0 (by decide)
  have l2 := lo 2 (by decide)
  have l3 := lo 3 (by decide)
  have l6 := lo 6 (by decide)
  have l7 := lo 7 (by decide)
  unfold passF
  generalize tiU σ a g = τ at *
  by_cases hh : hasF σ a
  · simp only [eq_true hh, if_true, u, not_true_eq_false, false_and, if_false]
    grind
  · simp only [eq_false hh, if_false, u, not_false_eq_true, true_and]
    grind
section MPS
variable {L : Nat} {xs : Nat → Int32} {d : Nat} {μ : ps_M} {m B : Nat} {σ : Nat → Int32} {g : Nat}
theorem mm_leak (hm : isMd μ m) (hB : B ≤ 1832) (h7 : σ 7 = 0 ∨ σ 7 = 1) : ps_Ev (ps_XX L xs) (d + 1) j_X8_leaking [.ref m, .int (nI B)] (MS μ m B σ) (some (.int (leakF σ))) (MS μ m B σ) := by
  rw [← leak_tb h7]
  exact mm_leaking hm hB
theorem mm_pass_loop (hm : isMd μ m) (hB : B ≤ 1832) (hok : shOK g σ) (a pp ll : Int32) {K : ps_F → Prop} {r : Option Value} {μ' : ps_M} (hK : K = ps_rt j_X8_pass r μ') (hk : ps_To (ps_XX L xs) (ps_Ev (ps_XX L xs) (d + 3)) j_X8_pass K (153, [(5, .int (nI g)), (4, .int pp), (3, .int ll), (0, .ref m), (1, .int (nI B)), (2, .int a)], [], MS μ m B (tiU σ a g))) : ∀ (n i : Nat), i + n = g → ps_To (ps_XX L xs) (ps_Ev (ps_XX L xs) (d + 3)) j_X8_pass K (51, [(5, .int (nI i)), (4, .int pp), (3, .int ll), (0, .ref m), (1, .int (nI B)), (2, .int a)], [], MS μ m B (tiU σ a i)) := by
  subst hK
  obtain ⟨hg, h8, hst⟩ := hok
  intro n
  induction n with
  | zero =>
    intro i hi
    obtain rfl : i = g := by omega
    refine e_2 rfl rfl ?_
    refine e_4 rfl rfl ?_
    refine m_gangs hm rfl rfl ?_
    rw [tiU_lo (by decide), h8]
    refine e_39 rfl (fun _ => hk) (fun h1 => absurd (nI_le (Nat.le_refl _) (by omega)) h1)
  | succ n ih =>
    intro i hi
    have hi6 : i < 6 := by omega
    obtain ⟨⟨kd, hkd, ekd⟩, sg, hsg, esg⟩ := hst i (by omega)
    refine e_2 rfl rfl ?_
    refine e_4 rfl rfl ?_
    refine m_gangs hm rfl rfl ?_
    rw [tiU_lo (by decide), h8]
    refine e_39 rfl (fun h1 => absurd h1 (nI_ge (by omega) (by omega))) (fun _ => ?_)
    refine e_2 rfl rfl ?_
    refine e_0 rfl ?_
    refine e_9 rfl ?_
    refine e_2 rfl rfl ?_
    refine e_9 rfl ?_
    refine e_5 rfl rfl ?_
    refine e_4 rfl rfl ?_
    refine m_row hm rfl rfl ?_
    refine e_2 rfl rfl ?_
    refine m_ald (k := 6 + i) (x := 21 + i) hm hB (by simp only [nq_0, nq_1, nq_2, nq_3, nq_4, nq_5, nq_6, nq_12, nI_add]; first | done | exact congrArg nI (by omega)) (by omega) (by first | rfl | (rw [mdX_lo (by omega) (by omega)]; omega) | (rw [mdX_hi (by omega)]; omega)) rfl ?_
    refine e_4 rfl rfl ?_
    refine m_row hm rfl rfl ?_
    refine e_2 rfl rfl ?_
    refine e_0 rfl ?_
    refine e_9 rfl ?_
    refine e_2 rfl rfl ?_
    refine e_9 rfl ?_
    refine m_ald (k := 12 + i) (x := 15 + i) hm hB (by simp only [nq_0, nq_1, nq_2, nq_3, nq_4, nq_5, nq_6, nq_12, nI_add]; first | done | exact congrArg nI (by omega)) (by omega) (by first | rfl | (rw [mdX_lo (by omega) (by omega)]; omega) | (rw [mdX_hi (by omega)]; omega)) rfl ?_
    refine e_39 rfl (fun h1 => ?_) (fun h1 => ?_)
    · refine e_4 rfl rfl ?_
      refine m_row hm rfl rfl ?_
      refine e_2 rfl rfl ?_
      refine m_ald (k := 6 + i) (x := 21 + i) hm hB (by simp only [nq_0, nq_1, nq_2, nq_3, nq_4, nq_5, nq_6, nq_12, nI_add]; first | done | exact congrArg nI (by omega)) (by omega) (by first | rfl | (rw [mdX_lo (by omega) (by omega)]; omega) | (rw [mdX_hi (by omega)]; omega)) rfl ?_
      refine e_5 rfl rfl ?_
      refine e_4 rfl rfl ?_
      refine m_row hm rfl rfl ?_
      refine e_2 rfl rfl ?_
      refine e_2 rfl rfl ?_
      refine e_2 rfl rfl ?_
      refine e_37 rfl (fun h2 => ?_) (fun h2 => ?_)
      · refine e_2 rfl rfl ?_
        refine m_ast (k := 6 + i) (x := 21 + i) hm hB (by simp only [nq_0, nq_1, nq_2, nq_3, nq_4, nq_5, nq_6, nq_12, nI_add]; first | done | exact congrArg nI (by omega)) (by omega) (by first | rfl | (rw [mdX_lo (by omega) (by omega)]; omega) | (rw [mdX_hi (by omega)]; omega)) rfl ?_
        refine e_8 rfl rfl rfl ?_
        refine e_42 rfl ?_
        show ps_To _ _ _ _ (51, [(5, .int (nI i + 1)), (7, _), (6, _), (4, .int pp), (3, .int ll), (0, .ref m), (1, .int (nI B)), (2, .int a)], [], MS μ m B _)
        refine e_lv [0, 3, 4, 5, 6, 7] rfl rfl ?_
        show ps_To _ _ _ _ (51, [(5, .int (nI i + 1)), (4, .int pp), (3, .int ll), (0, .ref m), (1, .int (nI B)), (2, .int a)], [], MS μ m B _)
        rw [tiU_lo (show 15 + i < 21 by omega), tiU_hi (Nat.le_refl i)] at h1
        rw [nI_1, tiU_s (by rw [tiU_hi (Nat.le_refl i)]; unfold tireV; rw [if_neg h2, if_pos h1])]
        exact ih (i + 1) (by omega)
      · refine e_4 rfl rfl ?_
        refine m_kinds hm rfl rfl ?_
        refine e_2 rfl rfl ?_
        refine m_kld hm (by omega) rfl ?_
        refine e_4 rfl rfl ?_
        refine m_row hm rfl rfl ?_
        refine e_2 rfl rfl ?_
        refine m_ald (k := 6 + i) (x := 21 + i) hm hB (by simp only [nq_0, nq_1, nq_2, nq_3, nq_4, nq_5, nq_6, nq_12, nI_add]; first | done | exact congrArg nI (by omega)) (by omega) (by first | rfl | (rw [mdX_lo (by omega) (by omega)]; omega) | (rw [mdX_hi (by omega)]; omega)) rfl ?_
        refine e_s2 rfl rfl rfl (Nat.le_of_ble_eq_true rfl) (sm_behind _ _) ?_
        refine e_42 rfl ?_
        refine m_ast (k := 6 + i) (x := 21 + i) hm hB (by simp only [nq_0, nq_1, nq_2, nq_3, nq_4, nq_5, nq_6, nq_12, nI_add]; first | done | exact congrArg nI (by omega)) (by omega) (by first | rfl | (rw [mdX_lo (by omega) (by omega)]; omega) | (rw [mdX_hi (by omega)]; omega)) rfl ?_
        refine e_8 rfl rfl rfl ?_
        refine e_42 rfl ?_
        show ps_To _ _ _ _ (51, [(5, .int (nI i + 1)), (7, _), (6, _), (4, .int pp), (3, .int ll), (0, .ref m), (1, .int (nI B)), (2, .int a)], [], MS μ m B _)
        refine e_lv [0, 3, 4, 5, 6, 7] rfl rfl ?_
        show ps_To _ _ _ _ (51, [(5, .int (nI i + 1)), (4, .int pp), (3, .int ll), (0, .ref m), (1, .int (nI B)), (2, .int a)], [], MS μ m B _)
        rw [tiU_lo (show 15 + i < 21 by omega), tiU_hi (Nat.le_refl i)] at h1
        rw [nI_1, tiU_s (by rw [tiU_lo (show 9 + i < 21 by omega), tiU_hi (Nat.le_refl i)]; unfold tireV; rw [if_pos h2, ekd, esg]; exact beh_tb kd hkd sg (by omega))]
        exact ih (i + 1) (by omega)
    · refine e_4 rfl rfl ?_
      refine m_row hm rfl rfl ?_
      refine e_2 rfl rfl ?_
      refine m_ald (k := 6 + i) (x := 21 + i) hm hB (by simp only [nq_0, nq_1, nq_2, nq_3, nq_4, nq_5, nq_6, nq_12, nI_add]; first | done | exact congrArg nI (by omega)) (by omega) (by first | rfl | (rw [mdX_lo (by omega) (by omega)]; omega) | (rw [mdX_hi (by omega)]; omega)) rfl ?_
      refine e_0 rfl ?_
      refine e_9 rfl ?_
      refine e_42 rfl ?_
      refine e_5 rfl rfl ?_
      refine e_4 rfl rfl ?_
      refine m_row hm rfl rfl ?_
      refine e_2 rfl rfl ?_
      refine e_2 rfl rfl ?_
      refine e_2 rfl rfl ?_
      refine e_37 rfl (fun h3 => ?_) (fun h3 => ?_)
      · refine e_2 rfl rfl ?_
        refine m_ast (k := 6 + i) (x := 21 + i) hm hB (by simp only [nq_0, nq_1, nq_2, nq_3, nq_4, nq_5, nq_6, nq_12, nI_add]; first | done | exact congrArg nI (by omega)) (by omega) (by first | rfl | (rw [mdX_lo (by omega) (by omega)]; omega) | (rw [mdX_hi (by omega)]; omega)) rfl ?_
        refine e_8 rfl rfl rfl ?_
        refine e_42 rfl ?_
        show ps_To _ _ _ _ (51, [(5, .int (nI i + 1)), (7, _), (6, _), (4, .int pp), (3, .int ll), (0, .ref m), (1, .int (nI B)), (2, .int a)], [], MS μ m B _)
        refine e_lv [0, 3, 4, 5, 6, 7] rfl rfl ?_
        show ps_To _ _ _ _ (51, [(5, .int (nI i + 1)), (4, .int pp), (3, .int ll), (0, .ref m), (1, .int (nI B)), (2, .int a)], [], MS μ m B _)
        rw [tiU_lo (show 15 + i < 21 by omega), tiU_hi (Nat.le_refl i)] at h1
        rw [nI_1, tiU_s (by rw [tiU_hi (Nat.le_refl i)]; unfold tireV; rw [if_neg h3, if_neg h1])]
        exact ih (i + 1) (by omega)
      · refine e_4 rfl rfl ?_
        refine m_kinds hm rfl rfl ?_
        refine e_2 rfl rfl ?_
        refine m_kld hm (by omega) rfl ?_
        refine e_4 rfl rfl ?_
        refine m_row hm rfl rfl ?_
        refine e_2 rfl rfl ?_
        refine m_ald (k := 6 + i) (x := 21 + i) hm hB (by simp only [nq_0, nq_1, nq_2, nq_3, nq_4, nq_5, nq_6, nq_12, nI_add]; first | done | exact congrArg nI (by omega)) (by omega) (by first | rfl | (rw [mdX_lo (by omega) (by omega)]; omega) | (rw [mdX_hi (by omega)]; omega)) rfl ?_
        refine e_s2 rfl rfl rfl (Nat.le_of_ble_eq_true rfl) (sm_behind _ _) ?_
        refine e_42 rfl ?_
        refine m_ast (k := 6 + i) (x := 21 + i) hm hB (by simp only [nq_0, nq_1, nq_2, nq_3, nq_4, nq_5, nq_6, nq_12, nI_add]; first | done | exact congrArg nI (by omega)) (by omega) (by first | rfl | (rw [mdX_lo (by omega) (by omega)]; omega) | (rw [mdX_hi (by omega)]; omega)) rfl ?_
        refine e_8 rfl rfl rfl ?_
        refine e_42 rfl ?_
        show ps_To _ _ _ _ (51, [(5, .int (nI i + 1)), (7, _), (6, _), (4, .int pp), (3, .int ll), (0, .ref m), (1, .int (nI B)), (2, .int a)], [], MS μ m B _)
        refine e_lv [0, 3, 4, 5, 6, 7] rfl rfl ?_
        show ps_To _ _ _ _ (51, [(5, .int (nI i + 1)), (4, .int pp), (3, .int ll), (0, .ref m), (1, .int (nI B)), (2, .int a)], [], MS μ m B _)
        rw [tiU_lo (show 15 + i < 21 by omega), tiU_hi (Nat.le_refl i)] at h1
        rw [nI_1, tiU_s (by rw [tiU_lo (show 9 + i < 21 by omega), tiU_hi (Nat.le_refl i)]; unfold tireV; rw [if_pos h3, ekd, esg]; exact beh_tb kd hkd sg (by omega))]
        exact ih (i + 1) (by omega)
end MPS
