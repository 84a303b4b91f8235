-- ===== an hour of the model's, whole =====
theorem mx0p {x : Int32} (h : 0 ≤ x) : x = if 0 < x then x else 0 := by
  by_cases h2 : 0 < x
  · rw [if_pos h2]
  · rw [if_neg h2]; exact Int32.le_antisymm (Int32.not_lt.mp h2) h
theorem mx0n {x : Int32} (h : ¬ 0 ≤ x) : 0 = if 0 < x then x else 0 := by
  rw [if_neg (fun z => h (Int32.le_of_lt z))]
theorem has_of {σ : Nat → Int32} {g : Nat} (hg : g ≤ 6) (h8 : σ 8 = nI g) {a : Int32} (h : hasF σ a) : ∃ x, x < g ∧ a = nI x := by
  obtain ⟨k, hk, rfl⟩ := nI_of h.1
  refine ⟨k, ?_, rfl⟩
  rcases Nat.lt_or_ge k g with z | z
  · exact z
  · exact absurd (by rw [h8]; exact nI_le z hk) h.2
section MP2
variable {L : Nat} {xs : Nat → Int32} {d : Nat} {μ : ps_M} {m B : Nat} {σ : Nat → Int32} {g : Nat}
theorem mm_seg_g (hm : isMd μ m) (hB : B ≤ 1832) (hok : shOK g σ) {x : Nat} (hx : x < g) : ps_To (ps_XX L xs) (ps_Ev (ps_XX L xs) (d + 3)) j_X8_pass (ps_rt j_X8_pass none (MS μ m B (passF g σ (nI x)))) (153, [(5, .int (nI g)), (4, .int (pumpedF σ (nI x))), (3, .int (leakF σ)), (0, .ref m), (1, .int (nI B)), (2, .int (nI x))], [], MS μ m B (tiU σ (nI x) g)) := by
  obtain ⟨hg, h8, hst⟩ := hok
  have lo : ∀ k, k < 21 → tiU σ (nI x) g k = σ k := fun k h => tiU_lo h
  have u : ∀ (f : Nat → Int32) (i : Nat) (x : Int32) (k : Nat), upd f i x k = if k = i then x else f k := fun _ _ _ _ => rfl
  have l0 := lo 0 (by decide)
  have l2 := lo 2 (by decide)
  have l3 := lo 3 (by decide)
  have l5 := lo 5 (by decide)
  have l6 := lo 6 (by decide)
  have l7 := lo 7 (by decide)
  have l8 := lo 8 (by decide)
  have n6 : ¬ nI x = 6 := fun z => absurd ((nI_eq (b := 6) (by omega) (by decide)).mp z) (by omega)
  have n7 : ¬ nI x = 7 := fun z => absurd ((nI_eq (b := 7) (by omega) (by decide)).mp z) (by omega)
  have n8 : ¬ nI x = 8 := fun z => absurd ((nI_eq (b := 8) (by omega) (by decide)).mp z) (by omega)
  have hh : hasF σ (nI x) := ⟨nI_pos (by omega), by rw [h8]; exact nI_ge hx (by omega)⟩
  obtain ⟨⟨kd, hkd, ekd⟩, sg, hsg, esg⟩ := hst x hx
  have hc := chk_tb kd hkd
  have hcl : (nI x).toNatClampNeg = x := nI_clamp (by omega)
  refine e_2 rfl rfl ?_
  refine e_4 rfl rfl ?_
  refine m_gangs hm rfl rfl ?_
  rw [l8, h8]
  refine e_39 rfl (fun h1 => ?_) (fun h1 => ?_)
  · exact absurd h1 (nI_ge hx (by omega))
  · refine e_4 rfl rfl ?_
    refine m_row hm rfl rfl ?_
    refine e_2 rfl rfl ?_
    refine e_0 rfl ?_
    refine e_9 rfl ?_
    refine e_29 rfl rfl rfl ?_
    refine m_ald (k := 5) (x := 6) hm hB (by simp only [nq_0, nq_1, nq_2, nq_3, nq_4, nq_5, nq_6, nq_12, nI_add]; first | done | exact congrArg nI (by omega)) (by omega) (by first | rfl | (rw [mdX_lo (by omega) (by omega)]; omega) | (rw [mdX_hi (by omega)]; omega)) rfl ?_
    refine e_4 rfl rfl ?_
    refine m_kinds hm rfl rfl ?_
    refine e_2 rfl rfl ?_
    refine m_kld hm (by omega) rfl ?_
    refine e_s1 rfl rfl rfl (Nat.le_of_ble_eq_true rfl) (sm_isRacing _) ?_
    rw [lo (9 + x) (by omega), ekd]
    refine e_30b rfl (fun h2 => ?_) (fun h2 => ?_)
    · refine e_0 rfl ?_
      refine e_9 rfl ?_
      refine m_ast (k := 5) (x := 6) hm hB (by simp only [nq_0, nq_1, nq_2, nq_3, nq_4, nq_5, nq_6, nq_12, nI_add]; first | done | exact congrArg nI (by omega)) (by omega) (by first | rfl | (rw [mdX_lo (by omega) (by omega)]; omega) | (rw [mdX_hi (by omega)]; omega)) rfl ?_
      refine e_4 rfl rfl ?_
      refine m_row hm rfl rfl ?_
      refine e_2 rfl rfl ?_
      refine e_0 rfl ?_
      refine e_9 rfl ?_
      refine e_2 rfl rfl ?_
      refine e_0 rfl ?_
      refine e_37 rfl (fun h3 => ?_) (fun h3 => ?_)
      · refine e_4 rfl rfl ?_
        refine m_row hm rfl rfl ?_
        refine e_2 rfl rfl ?_
        refine e_0 rfl ?_
        refine e_9 rfl ?_
        refine m_ald (k := 5) (x := 6) hm hB (by simp only [nq_0, nq_1, nq_2, nq_3, nq_4, nq_5, nq_6, nq_12, nI_add]; first | done | exact congrArg nI (by omega)) (by omega) (by first | rfl | (rw [mdX_lo (by omega) (by omega)]; omega) | (rw [mdX_hi (by omega)]; omega)) rfl ?_
        refine m_ast (k := 5) (x := 6) hm hB (by simp only [nq_0, nq_1, nq_2, nq_3, nq_4, nq_5, nq_6, nq_12, nI_add]; first | done | exact congrArg nI (by omega)) (by omega) (by first | rfl | (rw [mdX_lo (by omega) (by omega)]; omega) | (rw [mdX_hi (by omega)]; omega)) rfl ?_
        refine e_4 rfl rfl ?_
        refine m_row hm rfl rfl ?_
        refine e_2 rfl rfl ?_
        refine e_0 rfl ?_
        refine e_9 rfl ?_
        refine e_29 rfl rfl rfl ?_
        refine m_ald (k := 2) (x := 2) hm hB (by simp only [nq_0, nq_1, nq_2, nq_3, nq_4, nq_5, nq_6, nq_12, nI_add]; first | done | exact congrArg nI (by omega)) (by omega) (by first | rfl | (rw [mdX_lo (by omega) (by omega)]; omega) | (rw [mdX_hi (by omega)]; omega)) rfl ?_
        refine e_2 rfl rfl ?_
        refine e_0 rfl ?_
        refine e_37 rfl (fun h4 => ?_) (fun h4 => ?_)
        · refine e_0 rfl ?_
          refine e_10 rfl ?_
          refine m_ast (k := 2) (x := 2) hm hB (by simp only [nq_0, nq_1, nq_2, nq_3, nq_4, nq_5, nq_6, nq_12, nI_add]; first | done | exact congrArg nI (by omega)) (by omega) (by first | rfl | (rw [mdX_lo (by omega) (by omega)]; omega) | (rw [mdX_hi (by omega)]; omega)) rfl ?_
          refine e_4 rfl rfl ?_
          refine m_row hm rfl rfl ?_
          refine e_2 rfl rfl ?_
          refine e_0 rfl ?_
          refine e_9 rfl ?_
          refine e_29 rfl rfl rfl ?_
          refine m_ald (k := 3) (x := 3) hm hB (by simp only [nq_0, nq_1, nq_2, nq_3, nq_4, nq_5, nq_6, nq_12, nI_add]; first | done | exact congrArg nI (by omega)) (by omega) (by first | rfl | (rw [mdX_lo (by omega) (by omega)]; omega) | (rw [mdX_hi (by omega)]; omega)) rfl ?_
          refine e_2 rfl rfl ?_
          refine e_0 rfl ?_
          refine e_37 rfl (fun h5 => ?_) (fun h5 => ?_)
          · refine e_0 rfl ?_
            refine e_9 rfl ?_
            refine m_ast (k := 3) (x := 3) hm hB (by simp only [nq_0, nq_1, nq_2, nq_3, nq_4, nq_5, nq_6, nq_12, nI_add]; first | done | exact congrArg nI (by omega)) (by omega) (by first | rfl | (rw [mdX_lo (by omega) (by omega)]; omega) | (rw [mdX_hi (by omega)]; omega)) rfl ?_
            refine e_4 rfl rfl ?_
            refine m_row hm rfl rfl ?_
            refine e_2 rfl rfl ?_
            refine e_0 rfl ?_
            refine e_9 rfl ?_
            refine e_2 rfl rfl ?_
            refine e_0 rfl ?_
            refine e_37 rfl (fun h6 => ?_) (fun h6 => ?_)
            · refine e_4 rfl rfl ?_
              refine m_row hm rfl rfl ?_
              refine e_2 rfl rfl ?_
              refine e_0 rfl ?_
              refine e_9 rfl ?_
              refine m_ald (k := 4) (x := 7) hm hB (by simp only [nq_0, nq_1, nq_2, nq_3, nq_4, nq_5, nq_6, nq_12, nI_add]; first | done | exact congrArg nI (by omega)) (by omega) (by first | rfl | (rw [mdX_lo (by omega) (by omega)]; omega) | (rw [mdX_hi (by omega)]; omega)) rfl ?_
              refine m_ast (k := 4) (x := 7) hm hB (by simp only [nq_0, nq_1, nq_2, nq_3, nq_4, nq_5, nq_6, nq_12, nI_add]; first | done | exact congrArg nI (by omega)) (by omega) (by first | rfl | (rw [mdX_lo (by omega) (by omega)]; omega) | (rw [mdX_hi (by omega)]; omega)) rfl ?_
              refine e_4 rfl rfl ?_
              refine m_row hm rfl rfl ?_
              refine e_2 rfl rfl ?_
              refine e_0 rfl ?_
              refine e_9 rfl ?_
              refine m_ald (k := 1) (x := 0) hm hB (by simp only [nq_0, nq_1, nq_2, nq_3, nq_4, nq_5, nq_6, nq_12, nI_add]; first | done | exact congrArg nI (by omega)) (by omega) (by first | rfl | (rw [mdX_lo (by omega) (by omega)]; omega) | (rw [mdX_hi (by omega)]; omega)) rfl ?_
              refine e_2 rfl rfl ?_
              refine e_9 rfl ?_
              refine e_2 rfl rfl ?_
              refine e_10 rfl ?_
              refine e_5 rfl rfl ?_
              refine e_4 rfl rfl ?_
              refine m_row hm rfl rfl ?_
              refine e_2 rfl rfl ?_
              refine e_0 rfl ?_
              refine e_9 rfl ?_
              refine e_2 rfl rfl ?_
              refine e_33 rfl (fun h7 => ?_) (fun h7 => ?_)
              · refine e_2 rfl rfl ?_
                refine m_ast (k := 1) (x := 0) hm hB (by simp only [nq_0, nq_1, nq_2, nq_3, nq_4, nq_5, nq_6, nq_12, nI_add]; first | done | exact congrArg nI (by omega)) (by omega) (by first | rfl | (rw [mdX_lo (by omega) (by omega)]; omega) | (rw [mdX_hi (by omega)]; omega)) rfl ?_
                refine e_4 rfl rfl ?_
                refine m_row hm rfl rfl ?_
                refine e_2 rfl rfl ?_
                refine e_0 rfl ?_
                refine e_9 rfl ?_
                refine e_29 rfl rfl rfl ?_
                refine m_ald (k := 0) (x := 5) hm hB (by simp only [nq_0, nq_1, nq_2, nq_3, nq_4, nq_5, nq_6, nq_12, nI_add]; first | done | exact congrArg nI (by omega)) (by omega) (by first | rfl | (rw [mdX_lo (by omega) (by omega)]; omega) | (rw [mdX_hi (by omega)]; omega)) rfl ?_
                refine e_0 rfl ?_
                refine e_9 rfl ?_
                refine m_ast (k := 0) (x := 5) hm hB (by simp only [nq_0, nq_1, nq_2, nq_3, nq_4, nq_5, nq_6, nq_12, nI_add]; first | done | exact congrArg nI (by omega)) (by omega) (by first | rfl | (rw [mdX_lo (by omega) (by omega)]; omega) | (rw [mdX_hi (by omega)]; omega)) rfl ?_
                exact e_rv rfl (MS_eq (fun k hk => by
                  rw [passF_pt]
                  have hw := mx0p h7
                  simp only [if_true, if_false, not_true_eq_false, not_false_eq_true, true_and, false_and, eq_true hh, hcl, ekd, ← hc]
                  simp only [u, reduceIte, Nat.reduceEqDiff, l0, l2, l3, l5, l6, l7] at hw ⊢
                  try simp only [eq_true h2, eq_false h2, if_true, if_false] at *
                  grind))
              · refine e_0 rfl ?_
                refine e_42 rfl ?_
                refine m_ast (k := 1) (x := 0) hm hB (by simp only [nq_0, nq_1, nq_2, nq_3, nq_4, nq_5, nq_6, nq_12, nI_add]; first | done | exact congrArg nI (by omega)) (by omega) (by first | rfl | (rw [mdX_lo (by omega) (by omega)]; omega) | (rw [mdX_hi (by omega)]; omega)) rfl ?_
                refine e_4 rfl rfl ?_
                refine m_row hm rfl rfl ?_
                refine e_2 rfl rfl ?_
                refine e_0 rfl ?_
                refine e_9 rfl ?_
                refine e_29 rfl rfl rfl ?_
                refine m_ald (k := 0) (x := 5) hm hB (by simp only [nq_0, nq_1, nq_2, nq_3, nq_4, nq_5, nq_6, nq_12, nI_add]; first | done | exact congrArg nI (by omega)) (by omega) (by first | rfl | (rw [mdX_lo (by omega) (by omega)]; omega) | (rw [mdX_hi (by omega)]; omega)) rfl ?_
                refine e_0 rfl ?_
                refine e_9 rfl ?_
                refine m_ast (k := 0) (x := 5) hm hB (by simp only [nq_0, nq_1, nq_2, nq_3, nq_4, nq_5, nq_6, nq_12, nI_add]; first | done | exact congrArg nI (by omega)) (by omega) (by first | rfl | (rw [mdX_lo (by omega) (by omega)]; omega) | (rw [mdX_hi (by omega)]; omega)) rfl ?_
                exact e_rv rfl (MS_eq (fun k hk => by
                  rw [passF_pt]
                  have hw := mx0n h7
                  simp only [if_true, if_false, not_true_eq_false, not_false_eq_true, true_and, false_and, eq_true hh, hcl, ekd, ← hc]
                  simp only [u, reduceIte, Nat.reduceEqDiff, l0, l2, l3, l5, l6, l7] at hw ⊢
                  try simp only [eq_true h2, eq_false h2, if_true, if_false] at *
                  grind))
            · exact absurd h6 n8
          · exact absurd h5 n7
        · exact absurd h4 n7
      · exact absurd h3 n6
    · refine e_0 rfl ?_
      refine e_42 rfl ?_
      refine e_9 rfl ?_
      refine m_ast (k := 5) (x := 6) hm hB (by simp only [nq_0, nq_1, nq_2, nq_3, nq_4, nq_5, nq_6, nq_12, nI_add]; first | done | exact congrArg nI (by omega)) (by omega) (by first | rfl | (rw [mdX_lo (by omega) (by omega)]; omega) | (rw [mdX_hi (by omega)]; omega)) rfl ?_
      refine e_4 rfl rfl ?_
      refine m_row hm rfl rfl ?_
      refine e_2 rfl rfl ?_
      refine e_0 rfl ?_
      refine e_9 rfl ?_
      refine e_2 rfl rfl ?_
      refine e_0 rfl ?_
      refine e_37 rfl (fun h8 => ?_) (fun h8 => ?_)
      · refine e_4 rfl rfl ?_
        refine m_row hm rfl rfl ?_
        refine e_2 rfl rfl ?_
        refine e_0 rfl ?_
        refine e_9 rfl ?_
        refine m_ald (k := 5) (x := 6) hm hB (by simp only [nq_0, nq_1, nq_2, nq_3, nq_4, nq_5, nq_6, nq_12, nI_add]; first | done | exact congrArg nI (by omega)) (by omega) (by first | rfl | (rw [mdX_lo (by omega) (by omega)]; omega) | (rw [mdX_hi (by omega)]; omega)) rfl ?_
        refine m_ast (k := 5) (x := 6) hm hB (by simp only [nq_0, nq_1, nq_2, nq_3, nq_4, nq_5, nq_6, nq_12, nI_add]; first | done | exact congrArg nI (by omega)) (by omega) (by first | rfl | (rw [mdX_lo (by omega) (by omega)]; omega) | (rw [mdX_hi (by omega)]; omega)) rfl ?_
        refine e_4 rfl rfl ?_
        refine m_row hm rfl rfl ?_
        refine e_2 rfl rfl ?_
        refine e_0 rfl ?_
        refine e_9 rfl ?_
        refine e_29 rfl rfl rfl ?_
        refine m_ald (k := 2) (x := 2) hm hB (by simp only [nq_0, nq_1, nq_2, nq_3, nq_4, nq_5, nq_6, nq_12, nI_add]; first | done | exact congrArg nI (by omega)) (by omega) (by first | rfl | (rw [mdX_lo (by omega) (by omega)]; omega) | (rw [mdX_hi (by omega)]; omega)) rfl ?_
        refine e_2 rfl rfl ?_
        refine e_0 rfl ?_
        refine e_37 rfl (fun h9 => ?_) (fun h9 => ?_)
        · refine e_0 rfl ?_
          refine e_10 rfl ?_
          refine m_ast (k := 2) (x := 2) hm hB (by simp only [nq_0, nq_1, nq_2, nq_3, nq_4, nq_5, nq_6, nq_12, nI_add]; first | done | exact congrArg nI (by omega)) (by omega) (by first | rfl | (rw [mdX_lo (by omega) (by omega)]; omega) | (rw [mdX_hi (by omega)]; omega)) rfl ?_
          refine e_4 rfl rfl ?_
          refine m_row hm rfl rfl ?_
          refine e_2 rfl rfl ?_
          refine e_0 rfl ?_
          refine e_9 rfl ?_
          refine e_29 rfl rfl rfl ?_
          refine m_ald (k := 3) (x := 3) hm hB (by simp only [nq_0, nq_1, nq_2, nq_3, nq_4, nq_5, nq_6, nq_12, nI_add]; first | done | exact congrArg nI (by omega)) (by omega) (by first | rfl | (rw [mdX_lo (by omega) (by omega)]; omega) | (rw [mdX_hi (by omega)]; omega)) rfl ?_
          refine e_2 rfl rfl ?_
          refine e_0 rfl ?_
          refine e_37 rfl (fun h10 => ?_) (fun h10 => ?_)
          · refine e_0 rfl ?_
            refine e_9 rfl ?_
            refine m_ast (k := 3) (x := 3) hm hB (by simp only [nq_0, nq_1, nq_2, nq_3, nq_4, nq_5, nq_6, nq_12, nI_add]; first | done | exact congrArg nI (by omega)) (by omega) (by first | rfl | (rw [mdX_lo (by omega) (by omega)]; omega) | (rw [mdX_hi (by omega)]; omega)) rfl ?_
            refine e_4 rfl rfl ?_
            refine m_row hm rfl rfl ?_
            refine e_2 rfl rfl ?_
            refine e_0 rfl ?_
            refine e_9 rfl ?_
            refine e_2 rfl rfl ?_
            refine e_0 rfl ?_
            refine e_37 rfl (fun h11 => ?_) (fun h11 => ?_)
            · refine e_4 rfl rfl ?_
              refine m_row hm rfl rfl ?_
              refine e_2 rfl rfl ?_
              refine e_0 rfl ?_
              refine e_9 rfl ?_
              refine m_ald (k := 4) (x := 7) hm hB (by simp only [nq_0, nq_1, nq_2, nq_3, nq_4, nq_5, nq_6, nq_12, nI_add]; first | done | exact congrArg nI (by omega)) (by omega) (by first | rfl | (rw [mdX_lo (by omega) (by omega)]; omega) | (rw [mdX_hi (by omega)]; omega)) rfl ?_
              refine m_ast (k := 4) (x := 7) hm hB (by simp only [nq_0, nq_1, nq_2, nq_3, nq_4, nq_5, nq_6, nq_12, nI_add]; first | done | exact congrArg nI (by omega)) (by omega) (by first | rfl | (rw [mdX_lo (by omega) (by omega)]; omega) | (rw [mdX_hi (by omega)]; omega)) rfl ?_
              refine e_4 rfl rfl ?_
              refine m_row hm rfl rfl ?_
              refine e_2 rfl rfl ?_
              refine e_0 rfl ?_
              refine e_9 rfl ?_
              refine m_ald (k := 1) (x := 0) hm hB (by simp only [nq_0, nq_1, nq_2, nq_3, nq_4, nq_5, nq_6, nq_12, nI_add]; first | done | exact congrArg nI (by omega)) (by omega) (by first | rfl | (rw [mdX_lo (by omega) (by omega)]; omega) | (rw [mdX_hi (by omega)]; omega)) rfl ?_
              refine e_2 rfl rfl ?_
              refine e_9 rfl ?_
              refine e_2 rfl rfl ?_
              refine e_10 rfl ?_
              refine e_5 rfl rfl ?_
              refine e_4 rfl rfl ?_
              refine m_row hm rfl rfl ?_
              refine e_2 rfl rfl ?_
              refine e_0 rfl ?_
              refine e_9 rfl ?_
              refine e_2 rfl rfl ?_
              refine e_33 rfl (fun h12 => ?_) (fun h12 => ?_)
              · refine e_2 rfl rfl ?_
                refine m_ast (k := 1) (x := 0) hm hB (by simp only [nq_0, nq_1, nq_2, nq_3, nq_4, nq_5, nq_6, nq_12, nI_add]; first | done | exact congrArg nI (by omega)) (by omega) (by first | rfl | (rw [mdX_lo (by omega) (by omega)]; omega) | (rw [mdX_hi (by omega)]; omega)) rfl ?_
                refine e_4 rfl rfl ?_
                refine m_row hm rfl rfl ?_
                refine e_2 rfl rfl ?_
                refine e_0 rfl ?_
                refine e_9 rfl ?_
                refine e_29 rfl rfl rfl ?_
                refine m_ald (k := 0) (x := 5) hm hB (by simp only [nq_0, nq_1, nq_2, nq_3, nq_4, nq_5, nq_6, nq_12, nI_add]; first | done | exact congrArg nI (by omega)) (by omega) (by first | rfl | (rw [mdX_lo (by omega) (by omega)]; omega) | (rw [mdX_hi (by omega)]; omega)) rfl ?_
                refine e_0 rfl ?_
                refine e_9 rfl ?_
                refine m_ast (k := 0) (x := 5) hm hB (by simp only [nq_0, nq_1, nq_2, nq_3, nq_4, nq_5, nq_6, nq_12, nI_add]; first | done | exact congrArg nI (by omega)) (by omega) (by first | rfl | (rw [mdX_lo (by omega) (by omega)]; omega) | (rw [mdX_hi (by omega)]; omega)) rfl ?_
                exact e_rv rfl (MS_eq (fun k hk => by
                  rw [passF_pt]
                  have hw := mx0p h12
                  simp only [if_true, if_false, not_true_eq_false, not_false_eq_true, true_and, false_and, eq_true hh, hcl, ekd, ← hc]
                  simp only [u, reduceIte, Nat.reduceEqDiff, l0, l2, l3, l5, l6, l7] at hw ⊢
                  try simp only [eq_true h2, eq_false h2, if_true, if_false] at *
                  grind))
              · refine e_0 rfl ?_
                refine e_42 rfl ?_
                refine m_ast (k := 1) (x := 0) hm hB (by simp only [nq_0, nq_1, nq_2, nq_3, nq_4, nq_5, nq_6, nq_12, nI_add]; first | done | exact congrArg nI (by omega)) (by omega) (by first | rfl | (rw [mdX_lo (by omega) (by omega)]; omega) | (rw [mdX_hi (by omega)]; omega)) rfl ?_
                refine e_4 rfl rfl ?_
                refine m_row hm rfl rfl ?_
                refine e_2 rfl rfl ?_
                refine e_0 rfl ?_
                refine e_9 rfl ?_
                refine e_29 rfl rfl rfl ?_
                refine m_ald (k := 0) (x := 5) hm hB (by simp only [nq_0, nq_1, nq_2, nq_3, nq_4, nq_5, nq_6, nq_12, nI_add]; first | done | exact congrArg nI (by omega)) (by omega) (by first | rfl | (rw [mdX_lo (by omega) (by omega)]; omega) | (rw [mdX_hi (by omega)]; omega)) rfl ?_
                refine e_0 rfl ?_
                refine e_9 rfl ?_
                refine m_ast (k := 0) (x := 5) hm hB (by simp only [nq_0, nq_1, nq_2, nq_3, nq_4, nq_5, nq_6, nq_12, nI_add]; first | done | exact congrArg nI (by omega)) (by omega) (by first | rfl | (rw [mdX_lo (by omega) (by omega)]; omega) | (rw [mdX_hi (by omega)]; omega)) rfl ?_
                exact e_rv rfl (MS_eq (fun k hk => by
                  rw [passF_pt]
                  have hw := mx0n h12
                  simp only [if_true, if_false, not_true_eq_false, not_false_eq_true, true_and, false_and, eq_true hh, hcl, ekd, ← hc]
                  simp only [u, reduceIte, Nat.reduceEqDiff, l0, l2, l3, l5, l6, l7] at hw ⊢
                  try simp only [eq_true h2, eq_false h2, if_true, if_false] at *
                  grind))
            · exact absurd h11 n8
          · exact absurd h10 n7
        · exact absurd h9 n7
      · exact absurd h8 n6
theorem mm_seg_6 (hm : isMd μ m) (hB : B ≤ 1832) (hok : shOK g σ)  : ps_To (ps_XX L xs) (ps_Ev (ps_XX L xs) (d + 3)) j_X8_pass (ps_rt j_X8_pass none (MS μ m B (passF g σ (nI 6)))) (153, [(5, .int (nI g)), (4, .int (0)), (3, .int (leakF σ)), (0, .ref m), (1, .int (nI B)), (2, .int (nI 6))], [], MS μ m B (tiU σ (nI 6) g)) := by
  obtain ⟨hg, h8, hst⟩ := hok
  have lo : ∀ k, k < 21 → tiU σ (nI 6) g k = σ k := fun k h => tiU_lo h
  have u : ∀ (f : Nat → Int32) (i : Nat) (x : Int32) (k : Nat), upd f i x k = if k = i then x else f k := fun _ _ _ _ => rfl
  have l0 := lo 0 (by decide)
  have l2 := lo 2 (by decide)
  have l3 := lo 3 (by decide)
  have l5 := lo 5 (by decide)
  have l6 := lo 6 (by decide)
  have l7 := lo 7 (by decide)
  have l8 := lo 8 (by decide)
  have hh : ¬ hasF σ (nI 6) := fun z => z.2 (by rw [h8]; exact nI_le (Nat.le_trans hg (by decide)) (by decide))
  have hp : pumpedF σ (nI 6) = 0 := if_neg hh
  have n6 : (nI 6 = 6) = True := by simp only [eq_iff_iff]; decide
  have n7 : (nI 6 = 7) = False := by simp only [eq_iff_iff]; decide
  have n8 : (nI 6 = 8) = False := by simp only [eq_iff_iff]; decide
  refine e_2 rfl rfl ?_
  refine e_4 rfl rfl ?_
  refine m_gangs hm rfl rfl ?_
  rw [l8, h8]
  refine e_39 rfl (fun h1 => ?_) (fun h1 => ?_)
  · refine e_4 rfl rfl ?_
    refine m_row hm rfl rfl ?_
    refine e_2 rfl rfl ?_
    refine e_0 rfl ?_
    refine e_9 rfl ?_
    refine e_2 rfl rfl ?_
    refine e_0 rfl ?_
    refine e_37 rfl (fun h2 => ?_) (fun h2 => ?_)
    · exact absurd rfl h2
    · refine e_0 rfl ?_
      refine e_42 rfl ?_
      refine m_ast (k := 5) (x := 6) hm hB (by simp only [nq_0, nq_1, nq_2, nq_3, nq_4, nq_5, nq_6, nq_12, nI_add]; first | done | exact congrArg nI (by omega)) (by omega) (by first | rfl | (rw [mdX_lo (by omega) (by omega)]; omega) | (rw [mdX_hi (by omega)]; omega)) rfl ?_
      refine e_4 rfl rfl ?_
      refine m_row hm rfl rfl ?_
      refine e_2 rfl rfl ?_
      refine e_0 rfl ?_
      refine e_9 rfl ?_
      refine e_29 rfl rfl rfl ?_
      refine m_ald (k := 2) (x := 2) hm hB (by simp only [nq_0, nq_1, nq_2, nq_3, nq_4, nq_5, nq_6, nq_12, nI_add]; first | done | exact congrArg nI (by omega)) (by omega) (by first | rfl | (rw [mdX_lo (by omega) (by omega)]; omega) | (rw [mdX_hi (by omega)]; omega)) rfl ?_
      refine e_2 rfl rfl ?_
      refine e_0 rfl ?_
      refine e_37 rfl (fun h3 => ?_) (fun h3 => ?_)
      · refine e_0 rfl ?_
        refine e_10 rfl ?_
        refine m_ast (k := 2) (x := 2) hm hB (by simp only [nq_0, nq_1, nq_2, nq_3, nq_4, nq_5, nq_6, nq_12, nI_add]; first | done | exact congrArg nI (by omega)) (by omega) (by first | rfl | (rw [mdX_lo (by omega) (by omega)]; omega) | (rw [mdX_hi (by omega)]; omega)) rfl ?_
        refine e_4 rfl rfl ?_
        refine m_row hm rfl rfl ?_
        refine e_2 rfl rfl ?_
        refine e_0 rfl ?_
        refine e_9 rfl ?_
        refine e_29 rfl rfl rfl ?_
        refine m_ald (k := 3) (x := 3) hm hB (by simp only [nq_0, nq_1, nq_2, nq_3, nq_4, nq_5, nq_6, nq_12, nI_add]; first | done | exact congrArg nI (by omega)) (by omega) (by first | rfl | (rw [mdX_lo (by omega) (by omega)]; omega) | (rw [mdX_hi (by omega)]; omega)) rfl ?_
        refine e_2 rfl rfl ?_
        refine e_0 rfl ?_
        refine e_37 rfl (fun h4 => ?_) (fun h4 => ?_)
        · refine e_0 rfl ?_
          refine e_9 rfl ?_
          refine m_ast (k := 3) (x := 3) hm hB (by simp only [nq_0, nq_1, nq_2, nq_3, nq_4, nq_5, nq_6, nq_12, nI_add]; first | done | exact congrArg nI (by omega)) (by omega) (by first | rfl | (rw [mdX_lo (by omega) (by omega)]; omega) | (rw [mdX_hi (by omega)]; omega)) rfl ?_
          refine e_4 rfl rfl ?_
          refine m_row hm rfl rfl ?_
          refine e_2 rfl rfl ?_
          refine e_0 rfl ?_
          refine e_9 rfl ?_
          refine e_2 rfl rfl ?_
          refine e_0 rfl ?_
          refine e_37 rfl (fun h5 => ?_) (fun h5 => ?_)
          · refine e_4 rfl rfl ?_
            refine m_row hm rfl rfl ?_
            refine e_2 rfl rfl ?_
            refine e_0 rfl ?_
            refine e_9 rfl ?_
            refine m_ald (k := 4) (x := 7) hm hB (by simp only [nq_0, nq_1, nq_2, nq_3, nq_4, nq_5, nq_6, nq_12, nI_add]; first | done | exact congrArg nI (by omega)) (by omega) (by first | rfl | (rw [mdX_lo (by omega) (by omega)]; omega) | (rw [mdX_hi (by omega)]; omega)) rfl ?_
            refine m_ast (k := 4) (x := 7) hm hB (by simp only [nq_0, nq_1, nq_2, nq_3, nq_4, nq_5, nq_6, nq_12, nI_add]; first | done | exact congrArg nI (by omega)) (by omega) (by first | rfl | (rw [mdX_lo (by omega) (by omega)]; omega) | (rw [mdX_hi (by omega)]; omega)) rfl ?_
            refine e_4 rfl rfl ?_
            refine m_row hm rfl rfl ?_
            refine e_2 rfl rfl ?_
            refine e_0 rfl ?_
            refine e_9 rfl ?_
            refine m_ald (k := 1) (x := 0) hm hB (by simp only [nq_0, nq_1, nq_2, nq_3, nq_4, nq_5, nq_6, nq_12, nI_add]; first | done | exact congrArg nI (by omega)) (by omega) (by first | rfl | (rw [mdX_lo (by omega) (by omega)]; omega) | (rw [mdX_hi (by omega)]; omega)) rfl ?_
            refine e_2 rfl rfl ?_
            refine e_9 rfl ?_
            refine e_2 rfl rfl ?_
            refine e_10 rfl ?_
            refine e_5 rfl rfl ?_
            refine e_4 rfl rfl ?_
            refine m_row hm rfl rfl ?_
            refine e_2 rfl rfl ?_
            refine e_0 rfl ?_
            refine e_9 rfl ?_
            refine e_2 rfl rfl ?_
            refine e_33 rfl (fun h6 => ?_) (fun h6 => ?_)
            · refine e_2 rfl rfl ?_
              refine m_ast (k := 1) (x := 0) hm hB (by simp only [nq_0, nq_1, nq_2, nq_3, nq_4, nq_5, nq_6, nq_12, nI_add]; first | done | exact congrArg nI (by omega)) (by omega) (by first | rfl | (rw [mdX_lo (by omega) (by omega)]; omega) | (rw [mdX_hi (by omega)]; omega)) rfl ?_
              refine e_4 rfl rfl ?_
              refine m_row hm rfl rfl ?_
              refine e_2 rfl rfl ?_
              refine e_0 rfl ?_
              refine e_9 rfl ?_
              refine e_29 rfl rfl rfl ?_
              refine m_ald (k := 0) (x := 5) hm hB (by simp only [nq_0, nq_1, nq_2, nq_3, nq_4, nq_5, nq_6, nq_12, nI_add]; first | done | exact congrArg nI (by omega)) (by omega) (by first | rfl | (rw [mdX_lo (by omega) (by omega)]; omega) | (rw [mdX_hi (by omega)]; omega)) rfl ?_
              refine e_0 rfl ?_
              refine e_9 rfl ?_
              refine m_ast (k := 0) (x := 5) hm hB (by simp only [nq_0, nq_1, nq_2, nq_3, nq_4, nq_5, nq_6, nq_12, nI_add]; first | done | exact congrArg nI (by omega)) (by omega) (by first | rfl | (rw [mdX_lo (by omega) (by omega)]; omega) | (rw [mdX_hi (by omega)]; omega)) rfl ?_
              exact e_rv rfl (MS_eq (fun k hk => by
                rw [passF_pt]
                have hw := mx0p h6
                simp only [if_true, if_false, not_true_eq_false, not_false_eq_true, true_and, false_and, eq_false hh, hp, n6, n7, n8]
                simp only [u, reduceIte, Nat.reduceEqDiff, l0, l2, l3, l5, l6, l7] at hw ⊢
                
                grind))
            · refine e_0 rfl ?_
              refine e_42 rfl ?_
              refine m_ast (k := 1) (x := 0) hm hB (by simp only [nq_0, nq_1, nq_2, nq_3, nq_4, nq_5, nq_6, nq_12, nI_add]; first | done | exact congrArg nI (by omega)) (by omega) (by first | rfl | (rw [mdX_lo (by omega) (by omega)]; omega) | (rw [mdX_hi (by omega)]; omega)) rfl ?_
              refine e_4 rfl rfl ?_
              refine m_row hm rfl rfl ?_
              refine e_2 rfl rfl ?_
              refine e_0 rfl ?_
              refine e_9 rfl ?_
              refine e_29 rfl rfl rfl ?_
              refine m_ald (k := 0) (x := 5) hm hB (by simp only [nq_0, nq_1, nq_2, nq_3, nq_4, nq_5, nq_6, nq_12, nI_add]; first | done | exact congrArg nI (by omega)) (by omega) (by first | rfl | (rw [mdX_lo (by omega) (by omega)]; omega) | (rw [mdX_hi (by omega)]; omega)) rfl ?_
              refine e_0 rfl ?_
              refine e_9 rfl ?_
              refine m_ast (k := 0) (x := 5) hm hB (by simp only [nq_0, nq_1, nq_2, nq_3, nq_4, nq_5, nq_6, nq_12, nI_add]; first | done | exact congrArg nI (by omega)) (by omega) (by first | rfl | (rw [mdX_lo (by omega) (by omega)]; omega) | (rw [mdX_hi (by omega)]; omega)) rfl ?_
              exact e_rv rfl (MS_eq (fun k hk => by
                rw [passF_pt]
                have hw := mx0n h6
                simp only [if_true, if_false, not_true_eq_false, not_false_eq_true, true_and, false_and, eq_false hh, hp, n6, n7, n8]
                simp only [u, reduceIte, Nat.reduceEqDiff, l0, l2, l3, l5, l6, l7] at hw ⊢
                
                grind))
          · exact absurd h5 (by decide)
        · exact absurd h4 (by decide)
      · exact absurd h3 (by decide)
  · exact absurd (nI_le (Nat.le_trans hg (show 6 ≤ 6 by decide)) (by decide)) h1
theorem mm_seg_7 (hm : isMd μ m) (hB : B ≤ 1832) (hok : shOK g σ)  : ps_To (ps_XX L xs) (ps_Ev (ps_XX L xs) (d + 3)) j_X8_pass (ps_rt j_X8_pass none (MS μ m B (passF g σ (nI 7)))) (153, [(5, .int (nI g)), (4, .int (0)), (3, .int (leakF σ)), (0, .ref m), (1, .int (nI B)), (2, .int (nI 7))], [], MS μ m B (tiU σ (nI 7) g)) := by
  obtain ⟨hg, h8, hst⟩ := hok
  have lo : ∀ k, k < 21 → tiU σ (nI 7) g k = σ k := fun k h => tiU_lo h
  have u : ∀ (f : Nat → Int32) (i : Nat) (x : Int32) (k : Nat), upd f i x k = if k = i then x else f k := fun _ _ _ _ => rfl
  have l0 := lo 0 (by decide)
  have l2 := lo 2 (by decide)
  have l3 := lo 3 (by decide)
  have l5 := lo 5 (by decide)
  have l6 := lo 6 (by decide)
  have l7 := lo 7 (by decide)
  have l8 := lo 8 (by decide)
  have hh : ¬ hasF σ (nI 7) := fun z => z.2 (by rw [h8]; exact nI_le (Nat.le_trans hg (by decide)) (by decide))
  have hp : pumpedF σ (nI 7) = 0 := if_neg hh
  have n6 : (nI 7 = 6) = False := by simp only [eq_iff_iff]; decide
  have n7 : (nI 7 = 7) = True := by simp only [eq_iff_iff]; decide
  have n8 : (nI 7 = 8) = False := by simp only [eq_iff_iff]; decide
  refine e_2 rfl rfl ?_
  refine e_4 rfl rfl ?_
  refine m_gangs hm rfl rfl ?_
  rw [l8, h8]
  refine e_39 rfl (fun h1 => ?_) (fun h1 => ?_)
  · refine e_4 rfl rfl ?_
    refine m_row hm rfl rfl ?_
    refine e_2 rfl rfl ?_
    refine e_0 rfl ?_
    refine e_9 rfl ?_
    refine e_2 rfl rfl ?_
    refine e_0 rfl ?_
    refine e_37 rfl (fun h2 => ?_) (fun h2 => ?_)
    · refine e_4 rfl rfl ?_
      refine m_row hm rfl rfl ?_
      refine e_2 rfl rfl ?_
      refine e_0 rfl ?_
      refine e_9 rfl ?_
      refine m_ald (k := 5) (x := 6) hm hB (by simp only [nq_0, nq_1, nq_2, nq_3, nq_4, nq_5, nq_6, nq_12, nI_add]; first | done | exact congrArg nI (by omega)) (by omega) (by first | rfl | (rw [mdX_lo (by omega) (by omega)]; omega) | (rw [mdX_hi (by omega)]; omega)) rfl ?_
      refine m_ast (k := 5) (x := 6) hm hB (by simp only [nq_0, nq_1, nq_2, nq_3, nq_4, nq_5, nq_6, nq_12, nI_add]; first | done | exact congrArg nI (by omega)) (by omega) (by first | rfl | (rw [mdX_lo (by omega) (by omega)]; omega) | (rw [mdX_hi (by omega)]; omega)) rfl ?_
      refine e_4 rfl rfl ?_
      refine m_row hm rfl rfl ?_
      refine e_2 rfl rfl ?_
      refine e_0 rfl ?_
      refine e_9 rfl ?_
      refine e_29 rfl rfl rfl ?_
      refine m_ald (k := 2) (x := 2) hm hB (by simp only [nq_0, nq_1, nq_2, nq_3, nq_4, nq_5, nq_6, nq_12, nI_add]; first | done | exact congrArg nI (by omega)) (by omega) (by first | rfl | (rw [mdX_lo (by omega) (by omega)]; omega) | (rw [mdX_hi (by omega)]; omega)) rfl ?_
      refine e_2 rfl rfl ?_
      refine e_0 rfl ?_
      refine e_37 rfl (fun h3 => ?_) (fun h3 => ?_)
      · exact absurd rfl h3
      · refine e_0 rfl ?_
        refine e_42 rfl ?_
        refine e_10 rfl ?_
        refine m_ast (k := 2) (x := 2) hm hB (by simp only [nq_0, nq_1, nq_2, nq_3, nq_4, nq_5, nq_6, nq_12, nI_add]; first | done | exact congrArg nI (by omega)) (by omega) (by first | rfl | (rw [mdX_lo (by omega) (by omega)]; omega) | (rw [mdX_hi (by omega)]; omega)) rfl ?_
        refine e_4 rfl rfl ?_
        refine m_row hm rfl rfl ?_
        refine e_2 rfl rfl ?_
        refine e_0 rfl ?_
        refine e_9 rfl ?_
        refine e_29 rfl rfl rfl ?_
        refine m_ald (k := 3) (x := 3) hm hB (by simp only [nq_0, nq_1, nq_2, nq_3, nq_4, nq_5, nq_6, nq_12, nI_add]; first | done | exact congrArg nI (by omega)) (by omega) (by first | rfl | (rw [mdX_lo (by omega) (by omega)]; omega) | (rw [mdX_hi (by omega)]; omega)) rfl ?_
        refine e_2 rfl rfl ?_
        refine e_0 rfl ?_
        refine e_37 rfl (fun h4 => ?_) (fun h4 => ?_)
        · exact absurd rfl h4
        · refine e_0 rfl ?_
          refine e_42 rfl ?_
          refine e_9 rfl ?_
          refine m_ast (k := 3) (x := 3) hm hB (by simp only [nq_0, nq_1, nq_2, nq_3, nq_4, nq_5, nq_6, nq_12, nI_add]; first | done | exact congrArg nI (by omega)) (by omega) (by first | rfl | (rw [mdX_lo (by omega) (by omega)]; omega) | (rw [mdX_hi (by omega)]; omega)) rfl ?_
          refine e_4 rfl rfl ?_
          refine m_row hm rfl rfl ?_
          refine e_2 rfl rfl ?_
          refine e_0 rfl ?_
          refine e_9 rfl ?_
          refine e_2 rfl rfl ?_
          refine e_0 rfl ?_
          refine e_37 rfl (fun h5 => ?_) (fun h5 => ?_)
          · refine e_4 rfl rfl ?_
            refine m_row hm rfl rfl ?_
            refine e_2 rfl rfl ?_
            refine e_0 rfl ?_
            refine e_9 rfl ?_
            refine m_ald (k := 4) (x := 7) hm hB (by simp only [nq_0, nq_1, nq_2, nq_3, nq_4, nq_5, nq_6, nq_12, nI_add]; first | done | exact congrArg nI (by omega)) (by omega) (by first | rfl | (rw [mdX_lo (by omega) (by omega)]; omega) | (rw [mdX_hi (by omega)]; omega)) rfl ?_
            refine m_ast (k := 4) (x := 7) hm hB (by simp only [nq_0, nq_1, nq_2, nq_3, nq_4, nq_5, nq_6, nq_12, nI_add]; first | done | exact congrArg nI (by omega)) (by omega) (by first | rfl | (rw [mdX_lo (by omega) (by omega)]; omega) | (rw [mdX_hi (by omega)]; omega)) rfl ?_
            refine e_4 rfl rfl ?_
            refine m_row hm rfl rfl ?_
            refine e_2 rfl rfl ?_
            refine e_0 rfl ?_
            refine e_9 rfl ?_
            refine m_ald (k := 1) (x := 0) hm hB (by simp only [nq_0, nq_1, nq_2, nq_3, nq_4, nq_5, nq_6, nq_12, nI_add]; first | done | exact congrArg nI (by omega)) (by omega) (by first | rfl | (rw [mdX_lo (by omega) (by omega)]; omega) | (rw [mdX_hi (by omega)]; omega)) rfl ?_
            refine e_2 rfl rfl ?_
            refine e_9 rfl ?_
            refine e_2 rfl rfl ?_
            refine e_10 rfl ?_
            refine e_5 rfl rfl ?_
            refine e_4 rfl rfl ?_
            refine m_row hm rfl rfl ?_
            refine e_2 rfl rfl ?_
            refine e_0 rfl ?_
            refine e_9 rfl ?_
            refine e_2 rfl rfl ?_
            refine e_33 rfl (fun h6 => ?_) (fun h6 => ?_)
            · refine e_2 rfl rfl ?_
              refine m_ast (k := 1) (x := 0) hm hB (by simp only [nq_0, nq_1, nq_2, nq_3, nq_4, nq_5, nq_6, nq_12, nI_add]; first | done | exact congrArg nI (by omega)) (by omega) (by first | rfl | (rw [mdX_lo (by omega) (by omega)]; omega) | (rw [mdX_hi (by omega)]; omega)) rfl ?_
              refine e_4 rfl rfl ?_
              refine m_row hm rfl rfl ?_
              refine e_2 rfl rfl ?_
              refine e_0 rfl ?_
              refine e_9 rfl ?_
              refine e_29 rfl rfl rfl ?_
              refine m_ald (k := 0) (x := 5) hm hB (by simp only [nq_0, nq_1, nq_2, nq_3, nq_4, nq_5, nq_6, nq_12, nI_add]; first | done | exact congrArg nI (by omega)) (by omega) (by first | rfl | (rw [mdX_lo (by omega) (by omega)]; omega) | (rw [mdX_hi (by omega)]; omega)) rfl ?_
              refine e_0 rfl ?_
              refine e_9 rfl ?_
              refine m_ast (k := 0) (x := 5) hm hB (by simp only [nq_0, nq_1, nq_2, nq_3, nq_4, nq_5, nq_6, nq_12, nI_add]; first | done | exact congrArg nI (by omega)) (by omega) (by first | rfl | (rw [mdX_lo (by omega) (by omega)]; omega) | (rw [mdX_hi (by omega)]; omega)) rfl ?_
              exact e_rv rfl (MS_eq (fun k hk => by
                rw [passF_pt]
                have hw := mx0p h6
                simp only [if_true, if_false, not_true_eq_false, not_false_eq_true, true_and, false_and, eq_false hh, hp, n6, n7, n8]
                simp only [u, reduceIte, Nat.reduceEqDiff, l0, l2, l3, l5, l6, l7] at hw ⊢
                
                grind))
            · refine e_0 rfl ?_
              refine e_42 rfl ?_
              refine m_ast (k := 1) (x := 0) hm hB (by simp only [nq_0, nq_1, nq_2, nq_3, nq_4, nq_5, nq_6, nq_12, nI_add]; first | done | exact congrArg nI (by omega)) (by omega) (by first | rfl | (rw [mdX_lo (by omega) (by omega)]; omega) | (rw [mdX_hi (by omega)]; omega)) rfl ?_
              refine e_4 rfl rfl ?_
              refine m_row hm rfl rfl ?_
              refine e_2 rfl rfl ?_
              refine e_0 rfl ?_
              refine e_9 rfl ?_
              refine e_29 rfl rfl rfl ?_
              refine m_ald (k := 0) (x := 5) hm hB (by simp only [nq_0, nq_1, nq_2, nq_3, nq_4, nq_5, nq_6, nq_12, nI_add]; first | done | exact congrArg nI (by omega)) (by omega) (by first | rfl | (rw [mdX_lo (by omega) (by omega)]; omega) | (rw [mdX_hi (by omega)]; omega)) rfl ?_
              refine e_0 rfl ?_
              refine e_9 rfl ?_
              refine m_ast (k := 0) (x := 5) hm hB (by simp only [nq_0, nq_1, nq_2, nq_3, nq_4, nq_5, nq_6, nq_12, nI_add]; first | done | exact congrArg nI (by omega)) (by omega) (by first | rfl | (rw [mdX_lo (by omega) (by omega)]; omega) | (rw [mdX_hi (by omega)]; omega)) rfl ?_
              exact e_rv rfl (MS_eq (fun k hk => by
                rw [passF_pt]
                have hw := mx0n h6
                simp only [if_true, if_false, not_true_eq_false, not_false_eq_true, true_and, false_and, eq_false hh, hp, n6, n7, n8]
                simp only [u, reduceIte, Nat.reduceEqDiff, l0, l2, l3, l5, l6, l7] at hw ⊢
                
                grind))
          · exact absurd h5 (by decide)
    · exact absurd h2 (by decide)
  · exact absurd (nI_le (Nat.le_trans hg (show 6 ≤ 7 by decide)) (by decide)) h1
theorem mm_seg_8 (hm : isMd μ m) (hB : B ≤ 1832) (hok : shOK g σ)  : ps_To (ps_XX L xs) (ps_Ev (ps_XX L xs) (d + 3)) j_X8_pass (ps_rt j_X8_pass none (MS μ m B (passF g σ (nI 8)))) (153, [(5, .int (nI g)), (4, .int (0)), (3, .int (leakF σ)), (0, .ref m), (1, .int (nI B)), (2, .int (nI 8))], [], MS μ m B (tiU σ (nI 8) g)) := by
  obtain ⟨hg, h8, hst⟩ := hok
  have lo : ∀ k, k < 21 → tiU σ (nI 8) g k = σ k := fun k h => tiU_lo h
  have u : ∀ (f : Nat → Int32) (i : Nat) (x : Int32) (k : Nat), upd f i x k = if k = i then x else f k := fun _ _ _ _ => rfl
  have l0 := lo 0 (by decide)
  have l2 := lo 2 (by decide)
  have l3 := lo 3 (by decide)
  have l5 := lo 5 (by decide)
  have l6 := lo 6 (by decide)
  have l7 := lo 7 (by decide)
  have l8 := lo 8 (by decide)
  have hh : ¬ hasF σ (nI 8) := fun z => z.2 (by rw [h8]; exact nI_le (Nat.le_trans hg (by decide)) (by decide))
  have hp : pumpedF σ (nI 8) = 0 := if_neg hh
  have n6 : (nI 8 = 6) = False := by simp only [eq_iff_iff]; decide
  have n7 : (nI 8 = 7) = False := by simp only [eq_iff_iff]; decide
  have n8 : (nI 8 = 8) = True := by simp only [eq_iff_iff]; decide
  refine e_2 rfl rfl ?_
  refine e_4 rfl rfl ?_
  refine m_gangs hm rfl rfl ?_
  rw [l8, h8]
  refine e_39 rfl (fun h1 => ?_) (fun h1 => ?_)
  · refine e_4 rfl rfl ?_
    refine m_row hm rfl rfl ?_
    refine e_2 rfl rfl ?_
    refine e_0 rfl ?_
    refine e_9 rfl ?_
    refine e_2 rfl rfl ?_
    refine e_0 rfl ?_
    refine e_37 rfl (fun h2 => ?_) (fun h2 => ?_)
    · refine e_4 rfl rfl ?_
      refine m_row hm rfl rfl ?_
      refine e_2 rfl rfl ?_
      refine e_0 rfl ?_
      refine e_9 rfl ?_
      refine m_ald (k := 5) (x := 6) hm hB (by simp only [nq_0, nq_1, nq_2, nq_3, nq_4, nq_5, nq_6, nq_12, nI_add]; first | done | exact congrArg nI (by omega)) (by omega) (by first | rfl | (rw [mdX_lo (by omega) (by omega)]; omega) | (rw [mdX_hi (by omega)]; omega)) rfl ?_
      refine m_ast (k := 5) (x := 6) hm hB (by simp only [nq_0, nq_1, nq_2, nq_3, nq_4, nq_5, nq_6, nq_12, nI_add]; first | done | exact congrArg nI (by omega)) (by omega) (by first | rfl | (rw [mdX_lo (by omega) (by omega)]; omega) | (rw [mdX_hi (by omega)]; omega)) rfl ?_
      refine e_4 rfl rfl ?_
      refine m_row hm rfl rfl ?_
      refine e_2 rfl rfl ?_
      refine e_0 rfl ?_
      refine e_9 rfl ?_
      refine e_29 rfl rfl rfl ?_
      refine m_ald (k := 2) (x := 2) hm hB (by simp only [nq_0, nq_1, nq_2, nq_3, nq_4, nq_5, nq_6, nq_12, nI_add]; first | done | exact congrArg nI (by omega)) (by omega) (by first | rfl | (rw [mdX_lo (by omega) (by omega)]; omega) | (rw [mdX_hi (by omega)]; omega)) rfl ?_
      refine e_2 rfl rfl ?_
      refine e_0 rfl ?_
      refine e_37 rfl (fun h3 => ?_) (fun h3 => ?_)
      · refine e_0 rfl ?_
        refine e_10 rfl ?_
        refine m_ast (k := 2) (x := 2) hm hB (by simp only [nq_0, nq_1, nq_2, nq_3, nq_4, nq_5, nq_6, nq_12, nI_add]; first | done | exact congrArg nI (by omega)) (by omega) (by first | rfl | (rw [mdX_lo (by omega) (by omega)]; omega) | (rw [mdX_hi (by omega)]; omega)) rfl ?_
        refine e_4 rfl rfl ?_
        refine m_row hm rfl rfl ?_
        refine e_2 rfl rfl ?_
        refine e_0 rfl ?_
        refine e_9 rfl ?_
        refine e_29 rfl rfl rfl ?_
        refine m_ald (k := 3) (x := 3) hm hB (by simp only [nq_0, nq_1, nq_2, nq_3, nq_4, nq_5, nq_6, nq_12, nI_add]; first | done | exact congrArg nI (by omega)) (by omega) (by first | rfl | (rw [mdX_lo (by omega) (by omega)]; omega) | (rw [mdX_hi (by omega)]; omega)) rfl ?_
        refine e_2 rfl rfl ?_
        refine e_0 rfl ?_
        refine e_37 rfl (fun h4 => ?_) (fun h4 => ?_)
        · refine e_0 rfl ?_
          refine e_9 rfl ?_
          refine m_ast (k := 3) (x := 3) hm hB (by simp only [nq_0, nq_1, nq_2, nq_3, nq_4, nq_5, nq_6, nq_12, nI_add]; first | done | exact congrArg nI (by omega)) (by omega) (by first | rfl | (rw [mdX_lo (by omega) (by omega)]; omega) | (rw [mdX_hi (by omega)]; omega)) rfl ?_
          refine e_4 rfl rfl ?_
          refine m_row hm rfl rfl ?_
          refine e_2 rfl rfl ?_
          refine e_0 rfl ?_
          refine e_9 rfl ?_
          refine e_2 rfl rfl ?_
          refine e_0 rfl ?_
          refine e_37 rfl (fun h5 => ?_) (fun h5 => ?_)
          · exact absurd rfl h5
          · refine e_0 rfl ?_
            refine e_42 rfl ?_
            refine m_ast (k := 4) (x := 7) hm hB (by simp only [nq_0, nq_1, nq_2, nq_3, nq_4, nq_5, nq_6, nq_12, nI_add]; first | done | exact congrArg nI (by omega)) (by omega) (by first | rfl | (rw [mdX_lo (by omega) (by omega)]; omega) | (rw [mdX_hi (by omega)]; omega)) rfl ?_
            refine e_4 rfl rfl ?_
            refine m_row hm rfl rfl ?_
            refine e_2 rfl rfl ?_
            refine e_0 rfl ?_
            refine e_9 rfl ?_
            refine m_ald (k := 1) (x := 0) hm hB (by simp only [nq_0, nq_1, nq_2, nq_3, nq_4, nq_5, nq_6, nq_12, nI_add]; first | done | exact congrArg nI (by omega)) (by omega) (by first | rfl | (rw [mdX_lo (by omega) (by omega)]; omega) | (rw [mdX_hi (by omega)]; omega)) rfl ?_
            refine e_2 rfl rfl ?_
            refine e_9 rfl ?_
            refine e_2 rfl rfl ?_
            refine e_10 rfl ?_
            refine e_5 rfl rfl ?_
            refine e_4 rfl rfl ?_
            refine m_row hm rfl rfl ?_
            refine e_2 rfl rfl ?_
            refine e_0 rfl ?_
            refine e_9 rfl ?_
            refine e_2 rfl rfl ?_
            refine e_33 rfl (fun h6 => ?_) (fun h6 => ?_)
            · refine e_2 rfl rfl ?_
              refine m_ast (k := 1) (x := 0) hm hB (by simp only [nq_0, nq_1, nq_2, nq_3, nq_4, nq_5, nq_6, nq_12, nI_add]; first | done | exact congrArg nI (by omega)) (by omega) (by first | rfl | (rw [mdX_lo (by omega) (by omega)]; omega) | (rw [mdX_hi (by omega)]; omega)) rfl ?_
              refine e_4 rfl rfl ?_
              refine m_row hm rfl rfl ?_
              refine e_2 rfl rfl ?_
              refine e_0 rfl ?_
              refine e_9 rfl ?_
              refine e_29 rfl rfl rfl ?_
              refine m_ald (k := 0) (x := 5) hm hB (by simp only [nq_0, nq_1, nq_2, nq_3, nq_4, nq_5, nq_6, nq_12, nI_add]; first | done | exact congrArg nI (by omega)) (by omega) (by first | rfl | (rw [mdX_lo (by omega) (by omega)]; omega) | (rw [mdX_hi (by omega)]; omega)) rfl ?_
              refine e_0 rfl ?_
              refine e_9 rfl ?_
              refine m_ast (k := 0) (x := 5) hm hB (by simp only [nq_0, nq_1, nq_2, nq_3, nq_4, nq_5, nq_6, nq_12, nI_add]; first | done | exact congrArg nI (by omega)) (by omega) (by first | rfl | (rw [mdX_lo (by omega) (by omega)]; omega) | (rw [mdX_hi (by omega)]; omega)) rfl ?_
              exact e_rv rfl (MS_eq (fun k hk => by
                rw [passF_pt]
                have hw := mx0p h6
                simp only [if_true, if_false, not_true_eq_false, not_false_eq_true, true_and, false_and, eq_false hh, hp, n6, n7, n8]
                simp only [u, reduceIte, Nat.reduceEqDiff, l0, l2, l3, l5, l6, l7] at hw ⊢
                
                grind))
            · refine e_0 rfl ?_
              refine e_42 rfl ?_
              refine m_ast (k := 1) (x := 0) hm hB (by simp only [nq_0, nq_1, nq_2, nq_3, nq_4, nq_5, nq_6, nq_12, nI_add]; first | done | exact congrArg nI (by omega)) (by omega) (by first | rfl | (rw [mdX_lo (by omega) (by omega)]; omega) | (rw [mdX_hi (by omega)]; omega)) rfl ?_
              refine e_4 rfl rfl ?_
              refine m_row hm rfl rfl ?_
              refine e_2 rfl rfl ?_
              refine e_0 rfl ?_
              refine e_9 rfl ?_
              refine e_29 rfl rfl rfl ?_
              refine m_ald (k := 0) (x := 5) hm hB (by simp only [nq_0, nq_1, nq_2, nq_3, nq_4, nq_5, nq_6, nq_12, nI_add]; first | done | exact congrArg nI (by omega)) (by omega) (by first | rfl | (rw [mdX_lo (by omega) (by omega)]; omega) | (rw [mdX_hi (by omega)]; omega)) rfl ?_
              refine e_0 rfl ?_
              refine e_9 rfl ?_
              refine m_ast (k := 0) (x := 5) hm hB (by simp only [nq_0, nq_1, nq_2, nq_3, nq_4, nq_5, nq_6, nq_12, nI_add]; first | done | exact congrArg nI (by omega)) (by omega) (by first | rfl | (rw [mdX_lo (by omega) (by omega)]; omega) | (rw [mdX_hi (by omega)]; omega)) rfl ?_
              exact e_rv rfl (MS_eq (fun k hk => by
                rw [passF_pt]
                have hw := mx0n h6
                simp only [if_true, if_false, not_true_eq_false, not_false_eq_true, true_and, false_and, eq_false hh, hp, n6, n7, n8]
                simp only [u, reduceIte, Nat.reduceEqDiff, l0, l2, l3, l5, l6, l7] at hw ⊢
                
                grind))
        · exact absurd h4 (by decide)
      · exact absurd h3 (by decide)
    · exact absurd h2 (by decide)
  · exact absurd (nI_le (Nat.le_trans hg (show 6 ≤ 8 by decide)) (by decide)) h1
theorem mm_seg_9 (hm : isMd μ m) (hB : B ≤ 1832) (hok : shOK g σ)  : ps_To (ps_XX L xs) (ps_Ev (ps_XX L xs) (d + 3)) j_X8_pass (ps_rt j_X8_pass none (MS μ m B (passF g σ (nI 9)))) (153, [(5, .int (nI g)), (4, .int (0)), (3, .int (leakF σ)), (0, .ref m), (1, .int (nI B)), (2, .int (nI 9))], [], MS μ m B (tiU σ (nI 9) g)) := by
  obtain ⟨hg, h8, hst⟩ := hok
  have lo : ∀ k, k < 21 → tiU σ (nI 9) g k = σ k := fun k h => tiU_lo h
  have u : ∀ (f : Nat → Int32) (i : Nat) (x : Int32) (k : Nat), upd f i x k = if k = i then x else f k := fun _ _ _ _ => rfl
  have l0 := lo 0 (by decide)
  have l2 := lo 2 (by decide)
  have l3 := lo 3 (by decide)
  have l5 := lo 5 (by decide)
  have l6 := lo 6 (by decide)
  have l7 := lo 7 (by decide)
  have l8 := lo 8 (by decide)
  have hh : ¬ hasF σ (nI 9) := fun z => z.2 (by rw [h8]; exact nI_le (Nat.le_trans hg (by decide)) (by decide))
  have hp : pumpedF σ (nI 9) = 0 := if_neg hh
  have n6 : (nI 9 = 6) = False := by simp only [eq_iff_iff]; decide
  have n7 : (nI 9 = 7) = False := by simp only [eq_iff_iff]; decide
  have n8 : (nI 9 = 8) = False := by simp only [eq_iff_iff]; decide
  refine e_2 rfl rfl ?_
  refine e_4 rfl rfl ?_
  refine m_gangs hm rfl rfl ?_
  rw [l8, h8]
  refine e_39 rfl (fun h1 => ?_) (fun h1 => ?_)
  · refine e_4 rfl rfl ?_
    refine m_row hm rfl rfl ?_
    refine e_2 rfl rfl ?_
    refine e_0 rfl ?_
    refine e_9 rfl ?_
    refine e_2 rfl rfl ?_
    refine e_0 rfl ?_
    refine e_37 rfl (fun h2 => ?_) (fun h2 => ?_)
    · refine e_4 rfl rfl ?_
      refine m_row hm rfl rfl ?_
      refine e_2 rfl rfl ?_
      refine e_0 rfl ?_
      refine e_9 rfl ?_
      refine m_ald (k := 5) (x := 6) hm hB (by simp only [nq_0, nq_1, nq_2, nq_3, nq_4, nq_5, nq_6, nq_12, nI_add]; first | done | exact congrArg nI (by omega)) (by omega) (by first | rfl | (rw [mdX_lo (by omega) (by omega)]; omega) | (rw [mdX_hi (by omega)]; omega)) rfl ?_
      refine m_ast (k := 5) (x := 6) hm hB (by simp only [nq_0, nq_1, nq_2, nq_3, nq_4, nq_5, nq_6, nq_12, nI_add]; first | done | exact congrArg nI (by omega)) (by omega) (by first | rfl | (rw [mdX_lo (by omega) (by omega)]; omega) | (rw [mdX_hi (by omega)]; omega)) rfl ?_
      refine e_4 rfl rfl ?_
      refine m_row hm rfl rfl ?_
      refine e_2 rfl rfl ?_
      refine e_0 rfl ?_
      refine e_9 rfl ?_
      refine e_29 rfl rfl rfl ?_
      refine m_ald (k := 2) (x := 2) hm hB (by simp only [nq_0, nq_1, nq_2, nq_3, nq_4, nq_5, nq_6, nq_12, nI_add]; first | done | exact congrArg nI (by omega)) (by omega) (by first | rfl | (rw [mdX_lo (by omega) (by omega)]; omega) | (rw [mdX_hi (by omega)]; omega)) rfl ?_
      refine e_2 rfl rfl ?_
      refine e_0 rfl ?_
      refine e_37 rfl (fun h3 => ?_) (fun h3 => ?_)
      · refine e_0 rfl ?_
        refine e_10 rfl ?_
        refine m_ast (k := 2) (x := 2) hm hB (by simp only [nq_0, nq_1, nq_2, nq_3, nq_4, nq_5, nq_6, nq_12, nI_add]; first | done | exact congrArg nI (by omega)) (by omega) (by first | rfl | (rw [mdX_lo (by omega) (by omega)]; omega) | (rw [mdX_hi (by omega)]; omega)) rfl ?_
        refine e_4 rfl rfl ?_
        refine m_row hm rfl rfl ?_
        refine e_2 rfl rfl ?_
        refine e_0 rfl ?_
        refine e_9 rfl ?_
        refine e_29 rfl rfl rfl ?_
        refine m_ald (k := 3) (x := 3) hm hB (by simp only [nq_0, nq_1, nq_2, nq_3, nq_4, nq_5, nq_6, nq_12, nI_add]; first | done | exact congrArg nI (by omega)) (by omega) (by first | rfl | (rw [mdX_lo (by omega) (by omega)]; omega) | (rw [mdX_hi (by omega)]; omega)) rfl ?_
        refine e_2 rfl rfl ?_
        refine e_0 rfl ?_
        refine e_37 rfl (fun h4 => ?_) (fun h4 => ?_)
        · refine e_0 rfl ?_
          refine e_9 rfl ?_
          refine m_ast (k := 3) (x := 3) hm hB (by simp only [nq_0, nq_1, nq_2, nq_3, nq_4, nq_5, nq_6, nq_12, nI_add]; first | done | exact congrArg nI (by omega)) (by omega) (by first | rfl | (rw [mdX_lo (by omega) (by omega)]; omega) | (rw [mdX_hi (by omega)]; omega)) rfl ?_
          refine e_4 rfl rfl ?_
          refine m_row hm rfl rfl ?_
          refine e_2 rfl rfl ?_
          refine e_0 rfl ?_
          refine e_9 rfl ?_
          refine e_2 rfl rfl ?_
          refine e_0 rfl ?_
          refine e_37 rfl (fun h5 => ?_) (fun h5 => ?_)
          · refine e_4 rfl rfl ?_
            refine m_row hm rfl rfl ?_
            refine e_2 rfl rfl ?_
            refine e_0 rfl ?_
            refine e_9 rfl ?_
            refine m_ald (k := 4) (x := 7) hm hB (by simp only [nq_0, nq_1, nq_2, nq_3, nq_4, nq_5, nq_6, nq_12, nI_add]; first | done | exact congrArg nI (by omega)) (by omega) (by first | rfl | (rw [mdX_lo (by omega) (by omega)]; omega) | (rw [mdX_hi (by omega)]; omega)) rfl ?_
            refine m_ast (k := 4) (x := 7) hm hB (by simp only [nq_0, nq_1, nq_2, nq_3, nq_4, nq_5, nq_6, nq_12, nI_add]; first | done | exact congrArg nI (by omega)) (by omega) (by first | rfl | (rw [mdX_lo (by omega) (by omega)]; omega) | (rw [mdX_hi (by omega)]; omega)) rfl ?_
            refine e_4 rfl rfl ?_
            refine m_row hm rfl rfl ?_
            refine e_2 rfl rfl ?_
            refine e_0 rfl ?_
            refine e_9 rfl ?_
            refine m_ald (k := 1) (x := 0) hm hB (by simp only [nq_0, nq_1, nq_2, nq_3, nq_4, nq_5, nq_6, nq_12, nI_add]; first | done | exact congrArg nI (by omega)) (by omega) (by first | rfl | (rw [mdX_lo (by omega) (by omega)]; omega) | (rw [mdX_hi (by omega)]; omega)) rfl ?_
            refine e_2 rfl rfl ?_
            refine e_9 rfl ?_
            refine e_2 rfl rfl ?_
            refine e_10 rfl ?_
            refine e_5 rfl rfl ?_
            refine e_4 rfl rfl ?_
            refine m_row hm rfl rfl ?_
            refine e_2 rfl rfl ?_
            refine e_0 rfl ?_
            refine e_9 rfl ?_
            refine e_2 rfl rfl ?_
            refine e_33 rfl (fun h6 => ?_) (fun h6 => ?_)
            · refine e_2 rfl rfl ?_
              refine m_ast (k := 1) (x := 0) hm hB (by simp only [nq_0, nq_1, nq_2, nq_3, nq_4, nq_5, nq_6, nq_12, nI_add]; first | done | exact congrArg nI (by omega)) (by omega) (by first | rfl | (rw [mdX_lo (by omega) (by omega)]; omega) | (rw [mdX_hi (by omega)]; omega)) rfl ?_
              refine e_4 rfl rfl ?_
              refine m_row hm rfl rfl ?_
              refine e_2 rfl rfl ?_
              refine e_0 rfl ?_
              refine e_9 rfl ?_
              refine e_29 rfl rfl rfl ?_
              refine m_ald (k := 0) (x := 5) hm hB (by simp only [nq_0, nq_1, nq_2, nq_3, nq_4, nq_5, nq_6, nq_12, nI_add]; first | done | exact congrArg nI (by omega)) (by omega) (by first | rfl | (rw [mdX_lo (by omega) (by omega)]; omega) | (rw [mdX_hi (by omega)]; omega)) rfl ?_
              refine e_0 rfl ?_
              refine e_9 rfl ?_
              refine m_ast (k := 0) (x := 5) hm hB (by simp only [nq_0, nq_1, nq_2, nq_3, nq_4, nq_5, nq_6, nq_12, nI_add]; first | done | exact congrArg nI (by omega)) (by omega) (by first | rfl | (rw [mdX_lo (by omega) (by omega)]; omega) | (rw [mdX_hi (by omega)]; omega)) rfl ?_
              exact e_rv rfl (MS_eq (fun k hk => by
                rw [passF_pt]
                have hw := mx0p h6
                simp only [if_true, if_false, not_true_eq_false, not_false_eq_true, true_and, false_and, eq_false hh, hp, n6, n7, n8]
                simp only [u, reduceIte, Nat.reduceEqDiff, l0, l2, l3, l5, l6, l7] at hw ⊢
                
                grind))
            · refine e_0 rfl ?_
              refine e_42 rfl ?_
              refine m_ast (k := 1) (x := 0) hm hB (by simp only [nq_0, nq_1, nq_2, nq_3, nq_4, nq_5, nq_6, nq_12, nI_add]; first | done | exact congrArg nI (by omega)) (by omega) (by first | rfl | (rw [mdX_lo (by omega) (by omega)]; omega) | (rw [mdX_hi (by omega)]; omega)) rfl ?_
              refine e_4 rfl rfl ?_
              refine m_row hm rfl rfl ?_
              refine e_2 rfl rfl ?_
              refine e_0 rfl ?_
              refine e_9 rfl ?_
              refine e_29 rfl rfl rfl ?_
              refine m_ald (k := 0) (x := 5) hm hB (by simp only [nq_0, nq_1, nq_2, nq_3, nq_4, nq_5, nq_6, nq_12, nI_add]; first | done | exact congrArg nI (by omega)) (by omega) (by first | rfl | (rw [mdX_lo (by omega) (by omega)]; omega) | (rw [mdX_hi (by omega)]; omega)) rfl ?_
              refine e_0 rfl ?_
              refine e_9 rfl ?_
              refine m_ast (k := 0) (x := 5) hm hB (by simp only [nq_0, nq_1, nq_2, nq_3, nq_4, nq_5, nq_6, nq_12, nI_add]; first | done | exact congrArg nI (by omega)) (by omega) (by first | rfl | (rw [mdX_lo (by omega) (by omega)]; omega) | (rw [mdX_hi (by omega)]; omega)) rfl ?_
              exact e_rv rfl (MS_eq (fun k hk => by
                rw [passF_pt]
                have hw := mx0n h6
                simp only [if_true, if_false, not_true_eq_false, not_false_eq_true, true_and, false_and, eq_false hh, hp, n6, n7, n8]
                simp only [u, reduceIte, Nat.reduceEqDiff, l0, l2, l3, l5, l6, l7] at hw ⊢
                
                grind))
          · exact absurd h5 (by decide)
        · exact absurd h4 (by decide)
      · exact absurd h3 (by decide)
    · exact absurd h2 (by decide)
  · exact absurd (nI_le (Nat.le_trans hg (show 6 ≤ 9 by decide)) (by decide)) h1
def legalF (σ : Nat → Int32) (a : Int32) : Prop := hasF σ a ∨ a = 6 ∨ a = 7 ∨ a = 8 ∨ a = 9
theorem mm_seg (hm : isMd μ m) (hB : B ≤ 1832) (hok : shOK g σ) {a : Int32} (ha : legalF σ a) : ps_To (ps_XX L xs) (ps_Ev (ps_XX L xs) (d + 3)) j_X8_pass (ps_rt j_X8_pass none (MS μ m B (passF g σ a))) (153, [(5, .int (nI g)), (4, .int (pumpedF σ a)), (3, .int (leakF σ)), (0, .ref m), (1, .int (nI B)), (2, .int (a))], [], MS μ m B (tiU σ a g)) := by
  have hn : ∀ a : Nat, 6 ≤ a → a < 2 ^ 31 → pumpedF σ (nI a) = 0 := fun a h1 h2 => if_neg (fun z => z.2 (by rw [hok.2.1]; exact nI_le (Nat.le_trans hok.1 h1) h2))
  rcases ha with h | rfl | rfl | rfl | rfl
  · obtain ⟨x, hx, rfl⟩ := has_of hok.1 hok.2.1 h
    exact mm_seg_g hm hB hok hx
  · rw [show pumpedF σ 6 = 0 from hn 6 (by decide) (by decide)]; exact mm_seg_6 hm hB hok
  · rw [show pumpedF σ 7 = 0 from hn 7 (by decide) (by decide)]; exact mm_seg_7 hm hB hok
  · rw [show pumpedF σ 8 = 0 from hn 8 (by decide) (by decide)]; exact mm_seg_8 hm hB hok
  · rw [show pumpedF σ 9 = 0 from hn 9 (by decide) (by decide)]; exact mm_seg_9 hm hB hok
theorem mm_pass (hm : isMd μ m) (hB : B ≤ 1832) (hok : shOK g σ) (h7 : σ 7 = 0 ∨ σ 7 = 1) {a : Int32} (ha : legalF σ a) : ps_Ev (ps_XX L xs) (d + 4) j_X8_pass [.ref m, .int (nI B), .int a] (MS μ m B σ) none (MS μ m B (passF g σ a)) := by
  refine ⟨Nat.le_of_ble_eq_true rfl, ?_⟩
  have key := mm_pass_loop (L := L) (xs := xs) (d := d) hm hB hok a (pumpedF σ a) (leakF σ) rfl (mm_seg hm hB hok ha) g 0 (by omega)
  rw [tiU_0] at key
  by_cases hh : hasF σ a
  · obtain ⟨x, hx, rfl⟩ := has_of hok.1 hok.2.1 hh
    obtain ⟨⟨kd, hkd, ekd⟩, sg, hsg, esg⟩ := hok.2.2 x hx
    have hg := hok.1
    have hp : pumpedF σ (nI x) = pumpF (σ 6) (nI kd) (σ (21 + x)) := by unfold pumpedF; rw [if_pos hh, nI_clamp (by omega), ekd]
    rw [hp] at key
    refine e_4 rfl rfl ?_
    refine e_2 rfl rfl ?_
    refine e_v1 rfl (by first | exact hm.1 | assumption | rfl) rfl (by decide) rfl (Nat.le_of_ble_eq_true rfl) (mm_leak hm hB h7) ?_
    refine e_5 rfl rfl ?_
    refine e_2 rfl rfl ?_
    refine e_4 rfl rfl ?_
    refine m_gangs hm rfl rfl ?_
    refine e_39 rfl (fun h1 => ?_) (fun h1 => ?_)
    · exact absurd h1 hh.2
    · refine e_4 rfl rfl ?_
      refine m_kinds hm rfl rfl ?_
      refine e_2 rfl rfl ?_
      refine m_kld hm (by omega) rfl ?_
      refine e_4 rfl rfl ?_
      refine m_row hm rfl rfl ?_
      refine e_2 rfl rfl ?_
      refine e_0 rfl ?_
      refine e_9 rfl ?_
      refine e_2 rfl rfl ?_
      refine e_9 rfl ?_
      refine m_ald (k := 6 + x) (x := 21 + x) hm hB (by simp only [nq_0, nq_1, nq_2, nq_3, nq_4, nq_5, nq_6, nq_12, nI_add]; first | done | exact congrArg nI (by omega)) (by omega) (by first | rfl | (rw [mdX_lo (by omega) (by omega)]; omega) | (rw [mdX_hi (by omega)]; omega)) rfl ?_
      refine e_4 rfl rfl ?_
      refine m_row hm rfl rfl ?_
      refine e_2 rfl rfl ?_
      refine e_0 rfl ?_
      refine e_9 rfl ?_
      refine m_ald (k := 5) (x := 6) hm hB (by simp only [nq_0, nq_1, nq_2, nq_3, nq_4, nq_5, nq_6, nq_12, nI_add]; first | done | exact congrArg nI (by omega)) (by omega) (by first | rfl | (rw [mdX_lo (by omega) (by omega)]; omega) | (rw [mdX_hi (by omega)]; omega)) rfl ?_
      refine e_s3 rfl rfl rfl (Nat.le_of_ble_eq_true rfl) (sm_pumps _ _ _) ?_
      refine e_42 rfl ?_
      rw [ekd, pumps_tb hkd]
      refine e_5 rfl rfl ?_
      refine e_0 rfl ?_
      refine e_5 rfl rfl ?_
      exact key
  · have hle : σ 8 ≤ a := by
      rcases ha with h | rfl | rfl | rfl | rfl
      · exact absurd h hh
      all_goals rw [hok.2.1]; exact nI_le (Nat.le_trans hok.1 (by decide)) (by decide)
    have hp : pumpedF σ a = 0 := if_neg hh
    rw [hp] at key
    refine e_4 rfl rfl ?_
    refine e_2 rfl rfl ?_
    refine e_v1 rfl (by first | exact hm.1 | assumption | rfl) rfl (by decide) rfl (Nat.le_of_ble_eq_true rfl) (mm_leak hm hB h7) ?_
    refine e_5 rfl rfl ?_
    refine e_2 rfl rfl ?_
    refine e_4 rfl rfl ?_
    refine m_gangs hm rfl rfl ?_
    refine e_39 rfl (fun h1 => ?_) (fun h1 => ?_)
    · refine e_0 rfl ?_
      refine e_5 rfl rfl ?_
      refine e_0 rfl ?_
      refine e_5 rfl rfl ?_
      exact key
    · exact absurd hle h1
end MP2
