-- ===== feigns, kinds, leaks of the model =====
section MQC
variable {L : Nat} {xs : Nat → Int32} {d : Nat} {μ : ps_M} {m : Nat} {σ : Nat → Int32} {g : Nat} {τ σ0 : Nat → Int32}
theorem mq_feigns (hm : isMd μ m) (e0 : mdG (ps_i μ) m 0 = σ0) (hs : sameF τ σ0) (hI : shI g σ0) {r : Int32} {k : Nat} (hr : rowP r → r = nI k ∧ k < 6) {N : Nat} (hN : 0 ≤ ps_i μ (m + 3) k → ps_i μ (m + 3) k = nI N ∧ N ≤ 40) : evI (ps_XX L xs) (d + 8) j_X8_feigns [.ref m, .int r] (MS μ m 1832 τ) (if ¬ rowP r then (-1, MS μ m 1832 τ) else if σ0 8 = 0 then (-4, MS μ m 1832 τ) else if ¬ 0 ≤ ps_i μ (m + 3) k then (-3, FM (MS μ m 1832 τ) m 1) else if ¬ N % 2 = 0 then (-3, FM (MS μ m 1832 τ) m 5) else if (allF g (fun x => ps_i μ (m + 4) (40 * k + x)) (N / 2) 0 σ0).1 = 0 then (-3, FM (MS μ m 1832 (allF g (fun x => ps_i μ (m + 4) (40 * k + x)) (N / 2) 0 σ0).2) m 3) else (bitsN (fun y => (sasF g (fun x => ps_i μ (m + 4) (40 * k + x)) (N / 2) σ0 y 3).1 = 1) g, MS (ps_sI μ m 9 (soF g (fun x => ps_i μ (m + 4) (40 * k + x)) (N / 2) 0 σ0).1) m 1832 (soF g (fun x => ps_i μ (m + 4) (40 * k + x)) (N / 2) 0 σ0).2)) := by
  by_cases hz : 0 ≤ ps_i μ (m + 3) k
  · obtain ⟨eN, hN40⟩ := hN hz
    by_cases ho : N % 2 = 0
    · obtain ⟨S, rfl⟩ : ∃ S, N = 2 * S := ⟨N / 2, by omega⟩
      rw [Nat.mul_div_cancel_left S (by decide)]
      by_cases ha : (allF g (fun x => ps_i μ (m + 4) (40 * k + x)) S 0 σ0).1 = 0
      · have hS20 : S ≤ 20 := by omega
        refine ⟨Nat.le_of_ble_eq_true rfl, ?_⟩
        refine e_2 rfl rfl ?_
        refine e_s1 rfl rfl rfl (Nat.le_of_ble_eq_true rfl) (sm_isRow _) ?_
        refine e_31b rfl (fun h1 => ?_) (fun h1 => ?_)
        · obtain ⟨rfl, hk⟩ := hr h1
          refine e_4 rfl rfl ?_
          refine m_gangs (by exact hm) rfl rfl ?_
          rw [hs 8 (by omega) (by omega)]
          refine e_31 rfl (fun h2 => ?_) (fun h2 => ?_)
          · refine e_4 rfl rfl ?_
            refine e_2 rfl rfl ?_
            refine e_v1 rfl (by first | exact hm.1 | assumption | rfl) rfl (by decide) rfl (Nat.le_of_ble_eq_true rfl) (evo (mt_np_cant hm hk eN hS20 hs (rowE_of e0) hI ha)) ?_
            refine e_5 rfl rfl ?_
            refine e_2 rfl rfl ?_
            refine e_30 rfl (fun h3 => ?_) (fun h3 => ?_)
            · exact absurd h3 (by decide)
            · refine e_2 rfl rfl ?_
              exact e_ri rfl rfl (by first | (simp only [eq_true h1, eq_false h2, eq_false h3, if_true, eq_true hz, eq_true ho, eq_true ha, if_true, if_false, not_true_eq_false, not_false_eq_true, and_true, true_and, and_false, false_and, or_true, true_or, or_false, false_or, reduceIte]; done) | (simp only [eq_true h1, eq_false h2, eq_false h3, if_true, eq_true hz, eq_true ho, eq_true ha, if_true, if_false, not_true_eq_false, not_false_eq_true, and_true, true_and, and_false, false_and, or_true, true_or, or_false, false_or, reduceIte]; rfl) | rfl) (by first | (simp only [eq_true h1, eq_false h2, eq_false h3, if_true, eq_true hz, eq_true ho, eq_true ha, if_true, if_false, not_true_eq_false, not_false_eq_true, and_true, true_and, and_false, false_and, or_true, true_or, or_false, false_or, reduceIte]; done) | (simp only [eq_true h1, eq_false h2, eq_false h3, if_true, eq_true hz, eq_true ho, eq_true ha, if_true, if_false, not_true_eq_false, not_false_eq_true, and_true, true_and, and_false, false_and, or_true, true_or, or_false, false_or, reduceIte]; rfl) | rfl)
          · refine e_0 rfl ?_
            exact e_ri rfl rfl (by first | (simp only [eq_true h1, eq_true h2, if_true, eq_true hz, eq_true ho, eq_true ha, if_true, if_false, not_true_eq_false, not_false_eq_true, and_true, true_and, and_false, false_and, or_true, true_or, or_false, false_or, reduceIte]; done) | (simp only [eq_true h1, eq_true h2, if_true, eq_true hz, eq_true ho, eq_true ha, if_true, if_false, not_true_eq_false, not_false_eq_true, and_true, true_and, and_false, false_and, or_true, true_or, or_false, false_or, reduceIte]; rfl) | rfl) (by first | (simp only [eq_true h1, eq_true h2, if_true, eq_true hz, eq_true ho, eq_true ha, if_true, if_false, not_true_eq_false, not_false_eq_true, and_true, true_and, and_false, false_and, or_true, true_or, or_false, false_or, reduceIte]; done) | (simp only [eq_true h1, eq_true h2, if_true, eq_true hz, eq_true ho, eq_true ha, if_true, if_false, not_true_eq_false, not_false_eq_true, and_true, true_and, and_false, false_and, or_true, true_or, or_false, false_or, reduceIte]; rfl) | rfl)
        · refine e_0 rfl ?_
          exact e_ri rfl rfl (by first | (simp only [eq_false h1, if_true, eq_true hz, eq_true ho, eq_true ha, if_true, if_false, not_true_eq_false, not_false_eq_true, and_true, true_and, and_false, false_and, or_true, true_or, or_false, false_or, reduceIte]; done) | (simp only [eq_false h1, if_true, eq_true hz, eq_true ho, eq_true ha, if_true, if_false, not_true_eq_false, not_false_eq_true, and_true, true_and, and_false, false_and, or_true, true_or, or_false, false_or, reduceIte]; rfl) | rfl) (by first | (simp only [eq_false h1, if_true, eq_true hz, eq_true ho, eq_true ha, if_true, if_false, not_true_eq_false, not_false_eq_true, and_true, true_and, and_false, false_and, or_true, true_or, or_false, false_or, reduceIte]; done) | (simp only [eq_false h1, if_true, eq_true hz, eq_true ho, eq_true ha, if_true, if_false, not_true_eq_false, not_false_eq_true, and_true, true_and, and_false, false_and, or_true, true_or, or_false, false_or, reduceIte]; rfl) | rfl)
      · have hS20 : S ≤ 20 := by omega
        have ha1 := (all_01 _ _ _).resolve_left ha
        have hl := all_leg _ _ _ ha1
        refine ⟨Nat.le_of_ble_eq_true rfl, ?_⟩
        refine e_2 rfl rfl ?_
        refine e_s1 rfl rfl rfl (Nat.le_of_ble_eq_true rfl) (sm_isRow _) ?_
        refine e_31b rfl (fun h1 => ?_) (fun h1 => ?_)
        · obtain ⟨rfl, hk⟩ := hr h1
          refine e_4 rfl rfl ?_
          refine m_gangs (by exact hm) rfl rfl ?_
          rw [hs 8 (by omega) (by omega)]
          refine e_31 rfl (fun h2 => ?_) (fun h2 => ?_)
          · refine e_4 rfl rfl ?_
            refine e_2 rfl rfl ?_
            refine e_v1 rfl (by first | exact hm.1 | assumption | rfl) rfl (by decide) rfl (Nat.le_of_ble_eq_true rfl) (evo (mt_np_ok hm hk eN hS20 hs (rowE_of e0) hI ha1)) ?_
            refine e_5 rfl rfl ?_
            refine e_2 rfl rfl ?_
            refine e_30 rfl (fun h3 => ?_) (fun h3 => ?_)
            · refine e_0 rfl ?_
              refine e_5 rfl rfl ?_
              refine e_0 rfl ?_
              refine e_5 rfl rfl ?_
              refine e_lv [0, 1, 3, 4] rfl rfl ?_
              simp only [eq_true h1, eq_false h2, eq_true h3, if_true, eq_true hz, eq_true ho, eq_false ha, if_true, if_false, not_true_eq_false, not_false_eq_true, and_true, true_and, and_false, false_and, or_true, true_or, or_false, false_or, reduceIte]
              exact mt_feigns_loop (L := L) (xs := xs) (d := d + 1) hm hk eN hS20 e0 (τ := (allF g (fun x => ps_i μ (m + 4) (40 * k + x)) S 0 σ0).2) (all_same _ _ _ sameF.rf) hI hl 0 g 0 (by omega)
            · exact absurd rfl h3
          · refine e_0 rfl ?_
            exact e_ri rfl rfl (by first | (simp only [eq_true h1, eq_true h2, if_true, eq_true hz, eq_true ho, eq_false ha, if_true, if_false, not_true_eq_false, not_false_eq_true, and_true, true_and, and_false, false_and, or_true, true_or, or_false, false_or, reduceIte]; done) | (simp only [eq_true h1, eq_true h2, if_true, eq_true hz, eq_true ho, eq_false ha, if_true, if_false, not_true_eq_false, not_false_eq_true, and_true, true_and, and_false, false_and, or_true, true_or, or_false, false_or, reduceIte]; rfl) | rfl) (by first | (simp only [eq_true h1, eq_true h2, if_true, eq_true hz, eq_true ho, eq_false ha, if_true, if_false, not_true_eq_false, not_false_eq_true, and_true, true_and, and_false, false_and, or_true, true_or, or_false, false_or, reduceIte]; done) | (simp only [eq_true h1, eq_true h2, if_true, eq_true hz, eq_true ho, eq_false ha, if_true, if_false, not_true_eq_false, not_false_eq_true, and_true, true_and, and_false, false_and, or_true, true_or, or_false, false_or, reduceIte]; rfl) | rfl)
        · refine e_0 rfl ?_
          exact e_ri rfl rfl (by first | (simp only [eq_false h1, if_true, eq_true hz, eq_true ho, eq_false ha, if_true, if_false, not_true_eq_false, not_false_eq_true, and_true, true_and, and_false, false_and, or_true, true_or, or_false, false_or, reduceIte]; done) | (simp only [eq_false h1, if_true, eq_true hz, eq_true ho, eq_false ha, if_true, if_false, not_true_eq_false, not_false_eq_true, and_true, true_and, and_false, false_and, or_true, true_or, or_false, false_or, reduceIte]; rfl) | rfl) (by first | (simp only [eq_false h1, if_true, eq_true hz, eq_true ho, eq_false ha, if_true, if_false, not_true_eq_false, not_false_eq_true, and_true, true_and, and_false, false_and, or_true, true_or, or_false, false_or, reduceIte]; done) | (simp only [eq_false h1, if_true, eq_true hz, eq_true ho, eq_false ha, if_true, if_false, not_true_eq_false, not_false_eq_true, and_true, true_and, and_false, false_and, or_true, true_or, or_false, false_or, reduceIte]; rfl) | rfl)
    · skip
      refine ⟨Nat.le_of_ble_eq_true rfl, ?_⟩
      refine e_2 rfl rfl ?_
      refine e_s1 rfl rfl rfl (Nat.le_of_ble_eq_true rfl) (sm_isRow _) ?_
      refine e_31b rfl (fun h1 => ?_) (fun h1 => ?_)
      · obtain ⟨rfl, hk⟩ := hr h1
        refine e_4 rfl rfl ?_
        refine m_gangs (by exact hm) rfl rfl ?_
        rw [hs 8 (by omega) (by omega)]
        refine e_31 rfl (fun h2 => ?_) (fun h2 => ?_)
        · refine e_4 rfl rfl ?_
          refine e_2 rfl rfl ?_
          refine e_v1 rfl (by first | exact hm.1 | assumption | rfl) rfl (by decide) rfl (Nat.le_of_ble_eq_true rfl) (evo (mt_np_odd hm hk eN hN40 ho)) ?_
          refine e_5 rfl rfl ?_
          refine e_2 rfl rfl ?_
          refine e_30 rfl (fun h3 => ?_) (fun h3 => ?_)
          · exact absurd h3 (by decide)
          · refine e_2 rfl rfl ?_
            exact e_ri rfl rfl (by first | (simp only [eq_true h1, eq_false h2, eq_false h3, if_true, eq_true hz, eq_false ho, if_true, if_false, not_true_eq_false, not_false_eq_true, and_true, true_and, and_false, false_and, or_true, true_or, or_false, false_or, reduceIte]; done) | (simp only [eq_true h1, eq_false h2, eq_false h3, if_true, eq_true hz, eq_false ho, if_true, if_false, not_true_eq_false, not_false_eq_true, and_true, true_and, and_false, false_and, or_true, true_or, or_false, false_or, reduceIte]; rfl) | rfl) (by first | (simp only [eq_true h1, eq_false h2, eq_false h3, if_true, eq_true hz, eq_false ho, if_true, if_false, not_true_eq_false, not_false_eq_true, and_true, true_and, and_false, false_and, or_true, true_or, or_false, false_or, reduceIte]; done) | (simp only [eq_true h1, eq_false h2, eq_false h3, if_true, eq_true hz, eq_false ho, if_true, if_false, not_true_eq_false, not_false_eq_true, and_true, true_and, and_false, false_and, or_true, true_or, or_false, false_or, reduceIte]; rfl) | rfl)
        · refine e_0 rfl ?_
          exact e_ri rfl rfl (by first | (simp only [eq_true h1, eq_true h2, if_true, eq_true hz, eq_false ho, if_true, if_false, not_true_eq_false, not_false_eq_true, and_true, true_and, and_false, false_and, or_true, true_or, or_false, false_or, reduceIte]; done) | (simp only [eq_true h1, eq_true h2, if_true, eq_true hz, eq_false ho, if_true, if_false, not_true_eq_false, not_false_eq_true, and_true, true_and, and_false, false_and, or_true, true_or, or_false, false_or, reduceIte]; rfl) | rfl) (by first | (simp only [eq_true h1, eq_true h2, if_true, eq_true hz, eq_false ho, if_true, if_false, not_true_eq_false, not_false_eq_true, and_true, true_and, and_false, false_and, or_true, true_or, or_false, false_or, reduceIte]; done) | (simp only [eq_true h1, eq_true h2, if_true, eq_true hz, eq_false ho, if_true, if_false, not_true_eq_false, not_false_eq_true, and_true, true_and, and_false, false_and, or_true, true_or, or_false, false_or, reduceIte]; rfl) | rfl)
      · refine e_0 rfl ?_
        exact e_ri rfl rfl (by first | (simp only [eq_false h1, if_true, eq_true hz, eq_false ho, if_true, if_false, not_true_eq_false, not_false_eq_true, and_true, true_and, and_false, false_and, or_true, true_or, or_false, false_or, reduceIte]; done) | (simp only [eq_false h1, if_true, eq_true hz, eq_false ho, if_true, if_false, not_true_eq_false, not_false_eq_true, and_true, true_and, and_false, false_and, or_true, true_or, or_false, false_or, reduceIte]; rfl) | rfl) (by first | (simp only [eq_false h1, if_true, eq_true hz, eq_false ho, if_true, if_false, not_true_eq_false, not_false_eq_true, and_true, true_and, and_false, false_and, or_true, true_or, or_false, false_or, reduceIte]; done) | (simp only [eq_false h1, if_true, eq_true hz, eq_false ho, if_true, if_false, not_true_eq_false, not_false_eq_true, and_true, true_and, and_false, false_and, or_true, true_or, or_false, false_or, reduceIte]; rfl) | rfl)
  · skip
    refine ⟨Nat.le_of_ble_eq_true rfl, ?_⟩
    refine e_2 rfl rfl ?_
    refine e_s1 rfl rfl rfl (Nat.le_of_ble_eq_true rfl) (sm_isRow _) ?_
    refine e_31b rfl (fun h1 => ?_) (fun h1 => ?_)
    · obtain ⟨rfl, hk⟩ := hr h1
      refine e_4 rfl rfl ?_
      refine m_gangs (by exact hm) rfl rfl ?_
      rw [hs 8 (by omega) (by omega)]
      refine e_31 rfl (fun h2 => ?_) (fun h2 => ?_)
      · refine e_4 rfl rfl ?_
        refine e_2 rfl rfl ?_
        refine e_v1 rfl (by first | exact hm.1 | assumption | rfl) rfl (by decide) rfl (Nat.le_of_ble_eq_true rfl) (evo (mt_np_no hm hk hz)) ?_
        refine e_5 rfl rfl ?_
        refine e_2 rfl rfl ?_
        refine e_30 rfl (fun h3 => ?_) (fun h3 => ?_)
        · exact absurd h3 (by decide)
        · refine e_2 rfl rfl ?_
          exact e_ri rfl rfl (by first | (simp only [eq_true h1, eq_false h2, eq_false h3, if_true, eq_false hz, if_true, if_false, not_true_eq_false, not_false_eq_true, and_true, true_and, and_false, false_and, or_true, true_or, or_false, false_or, reduceIte]; done) | (simp only [eq_true h1, eq_false h2, eq_false h3, if_true, eq_false hz, if_true, if_false, not_true_eq_false, not_false_eq_true, and_true, true_and, and_false, false_and, or_true, true_or, or_false, false_or, reduceIte]; rfl) | rfl) (by first | (simp only [eq_true h1, eq_false h2, eq_false h3, if_true, eq_false hz, if_true, if_false, not_true_eq_false, not_false_eq_true, and_true, true_and, and_false, false_and, or_true, true_or, or_false, false_or, reduceIte]; done) | (simp only [eq_true h1, eq_false h2, eq_false h3, if_true, eq_false hz, if_true, if_false, not_true_eq_false, not_false_eq_true, and_true, true_and, and_false, false_and, or_true, true_or, or_false, false_or, reduceIte]; rfl) | rfl)
      · refine e_0 rfl ?_
        exact e_ri rfl rfl (by first | (simp only [eq_true h1, eq_true h2, if_true, eq_false hz, if_true, if_false, not_true_eq_false, not_false_eq_true, and_true, true_and, and_false, false_and, or_true, true_or, or_false, false_or, reduceIte]; done) | (simp only [eq_true h1, eq_true h2, if_true, eq_false hz, if_true, if_false, not_true_eq_false, not_false_eq_true, and_true, true_and, and_false, false_and, or_true, true_or, or_false, false_or, reduceIte]; rfl) | rfl) (by first | (simp only [eq_true h1, eq_true h2, if_true, eq_false hz, if_true, if_false, not_true_eq_false, not_false_eq_true, and_true, true_and, and_false, false_and, or_true, true_or, or_false, false_or, reduceIte]; done) | (simp only [eq_true h1, eq_true h2, if_true, eq_false hz, if_true, if_false, not_true_eq_false, not_false_eq_true, and_true, true_and, and_false, false_and, or_true, true_or, or_false, false_or, reduceIte]; rfl) | rfl)
    · refine e_0 rfl ?_
      exact e_ri rfl rfl (by first | (simp only [eq_false h1, if_true, eq_false hz, if_true, if_false, not_true_eq_false, not_false_eq_true, and_true, true_and, and_false, false_and, or_true, true_or, or_false, false_or, reduceIte]; done) | (simp only [eq_false h1, if_true, eq_false hz, if_true, if_false, not_true_eq_false, not_false_eq_true, and_true, true_and, and_false, false_and, or_true, true_or, or_false, false_or, reduceIte]; rfl) | rfl) (by first | (simp only [eq_false h1, if_true, eq_false hz, if_true, if_false, not_true_eq_false, not_false_eq_true, and_true, true_and, and_false, false_and, or_true, true_or, or_false, false_or, reduceIte]; done) | (simp only [eq_false h1, if_true, eq_false hz, if_true, if_false, not_true_eq_false, not_false_eq_true, and_true, true_and, and_false, false_and, or_true, true_or, or_false, false_or, reduceIte]; rfl) | rfl)
theorem mq_leaks (hm : isMd μ m) (e0 : mdG (ps_i μ) m 0 = σ0) (hs : sameF τ σ0) (hI : shI g σ0) {r : Int32} {k : Nat} (hr : rowP r → r = nI k ∧ k < 6) {N : Nat} (hN : 0 ≤ ps_i μ (m + 3) k → ps_i μ (m + 3) k = nI N ∧ N ≤ 40) : evI (ps_XX L xs) (d + 7) j_X8_leaks [.ref m, .int r] (MS μ m 1832 τ) (if ¬ rowP r then (-1, MS μ m 1832 τ) else if σ0 8 = 0 then (-4, MS μ m 1832 τ) else if ¬ 0 ≤ ps_i μ (m + 3) k then (-3, FM (MS μ m 1832 τ) m 1) else if ¬ N % 2 = 0 then (-3, FM (MS μ m 1832 τ) m 5) else if (allF g (fun x => ps_i μ (m + 4) (40 * k + x)) (N / 2) 0 σ0).1 = 0 then (-3, FM (MS μ m 1832 (allF g (fun x => ps_i μ (m + 4) (40 * k + x)) (N / 2) 0 σ0).2) m 3) else (bits1 (fun y => (lkF g (fun x => ps_i μ (m + 4) (40 * k + x)) (N / 2) σ0 y).1 = 1) 9, MS μ m 1832 (upd (lastL g (fun x => ps_i μ (m + 4) (40 * k + x)) (N / 2) σ0 (allF g (fun x => ps_i μ (m + 4) (40 * k + x)) (N / 2) 0 σ0).2 9) 1 (σ0 1)))) := by
  by_cases hz : 0 ≤ ps_i μ (m + 3) k
  · obtain ⟨eN, hN40⟩ := hN hz
    by_cases ho : N % 2 = 0
    · obtain ⟨S, rfl⟩ : ∃ S, N = 2 * S := ⟨N / 2, by omega⟩
      rw [Nat.mul_div_cancel_left S (by decide)]
      by_cases ha : (allF g (fun x => ps_i μ (m + 4) (40 * k + x)) S 0 σ0).1 = 0
      · have hS20 : S ≤ 20 := by omega
        refine ⟨Nat.le_of_ble_eq_true rfl, ?_⟩
        refine e_2 rfl rfl ?_
        refine e_s1 rfl rfl rfl (Nat.le_of_ble_eq_true rfl) (sm_isRow _) ?_
        refine e_31b rfl (fun h1 => ?_) (fun h1 => ?_)
        · obtain ⟨rfl, hk⟩ := hr h1
          refine e_4 rfl rfl ?_
          refine m_gangs (by exact hm) rfl rfl ?_
          rw [hs 8 (by omega) (by omega)]
          refine e_31 rfl (fun h2 => ?_) (fun h2 => ?_)
          · refine e_4 rfl rfl ?_
            refine e_2 rfl rfl ?_
            refine e_v1 rfl (by first | exact hm.1 | assumption | rfl) rfl (by decide) rfl (Nat.le_of_ble_eq_true rfl) (evo (mt_np_cant hm hk eN hS20 hs (rowE_of e0) hI ha)) ?_
            refine e_5 rfl rfl ?_
            refine e_2 rfl rfl ?_
            refine e_30 rfl (fun h3 => ?_) (fun h3 => ?_)
            · exact absurd h3 (by decide)
            · refine e_2 rfl rfl ?_
              exact e_ri rfl rfl (by first | (simp only [eq_true h1, eq_false h2, eq_false h3, if_true, eq_true hz, eq_true ho, eq_true ha, if_true, if_false, not_true_eq_false, not_false_eq_true, and_true, true_and, and_false, false_and, or_true, true_or, or_false, false_or, reduceIte]; done) | (simp only [eq_true h1, eq_false h2, eq_false h3, if_true, eq_true hz, eq_true ho, eq_true ha, if_true, if_false, not_true_eq_false, not_false_eq_true, and_true, true_and, and_false, false_and, or_true, true_or, or_false, false_or, reduceIte]; rfl) | rfl) (by first | (simp only [eq_true h1, eq_false h2, eq_false h3, if_true, eq_true hz, eq_true ho, eq_true ha, if_true, if_false, not_true_eq_false, not_false_eq_true, and_true, true_and, and_false, false_and, or_true, true_or, or_false, false_or, reduceIte]; done) | (simp only [eq_true h1, eq_false h2, eq_false h3, if_true, eq_true hz, eq_true ho, eq_true ha, if_true, if_false, not_true_eq_false, not_false_eq_true, and_true, true_and, and_false, false_and, or_true, true_or, or_false, false_or, reduceIte]; rfl) | rfl)
          · refine e_0 rfl ?_
            exact e_ri rfl rfl (by first | (simp only [eq_true h1, eq_true h2, if_true, eq_true hz, eq_true ho, eq_true ha, if_true, if_false, not_true_eq_false, not_false_eq_true, and_true, true_and, and_false, false_and, or_true, true_or, or_false, false_or, reduceIte]; done) | (simp only [eq_true h1, eq_true h2, if_true, eq_true hz, eq_true ho, eq_true ha, if_true, if_false, not_true_eq_false, not_false_eq_true, and_true, true_and, and_false, false_and, or_true, true_or, or_false, false_or, reduceIte]; rfl) | rfl) (by first | (simp only [eq_true h1, eq_true h2, if_true, eq_true hz, eq_true ho, eq_true ha, if_true, if_false, not_true_eq_false, not_false_eq_true, and_true, true_and, and_false, false_and, or_true, true_or, or_false, false_or, reduceIte]; done) | (simp only [eq_true h1, eq_true h2, if_true, eq_true hz, eq_true ho, eq_true ha, if_true, if_false, not_true_eq_false, not_false_eq_true, and_true, true_and, and_false, false_and, or_true, true_or, or_false, false_or, reduceIte]; rfl) | rfl)
        · refine e_0 rfl ?_
          exact e_ri rfl rfl (by first | (simp only [eq_false h1, if_true, eq_true hz, eq_true ho, eq_true ha, if_true, if_false, not_true_eq_false, not_false_eq_true, and_true, true_and, and_false, false_and, or_true, true_or, or_false, false_or, reduceIte]; done) | (simp only [eq_false h1, if_true, eq_true hz, eq_true ho, eq_true ha, if_true, if_false, not_true_eq_false, not_false_eq_true, and_true, true_and, and_false, false_and, or_true, true_or, or_false, false_or, reduceIte]; rfl) | rfl) (by first | (simp only [eq_false h1, if_true, eq_true hz, eq_true ho, eq_true ha, if_true, if_false, not_true_eq_false, not_false_eq_true, and_true, true_and, and_false, false_and, or_true, true_or, or_false, false_or, reduceIte]; done) | (simp only [eq_false h1, if_true, eq_true hz, eq_true ho, eq_true ha, if_true, if_false, not_true_eq_false, not_false_eq_true, and_true, true_and, and_false, false_and, or_true, true_or, or_false, false_or, reduceIte]; rfl) | rfl)
      · have hS20 : S ≤ 20 := by omega
        have ha1 := (all_01 _ _ _).resolve_left ha
        have hl := all_leg _ _ _ ha1
        refine ⟨Nat.le_of_ble_eq_true rfl, ?_⟩
        refine e_2 rfl rfl ?_
        refine e_s1 rfl rfl rfl (Nat.le_of_ble_eq_true rfl) (sm_isRow _) ?_
        refine e_31b rfl (fun h1 => ?_) (fun h1 => ?_)
        · obtain ⟨rfl, hk⟩ := hr h1
          refine e_4 rfl rfl ?_
          refine m_gangs (by exact hm) rfl rfl ?_
          rw [hs 8 (by omega) (by omega)]
          refine e_31 rfl (fun h2 => ?_) (fun h2 => ?_)
          · refine e_4 rfl rfl ?_
            refine e_2 rfl rfl ?_
            refine e_v1 rfl (by first | exact hm.1 | assumption | rfl) rfl (by decide) rfl (Nat.le_of_ble_eq_true rfl) (evo (mt_np_ok hm hk eN hS20 hs (rowE_of e0) hI ha1)) ?_
            refine e_5 rfl rfl ?_
            refine e_2 rfl rfl ?_
            refine e_30 rfl (fun h3 => ?_) (fun h3 => ?_)
            · refine e_4 rfl rfl ?_
              refine m_leak (by exact hm) rfl rfl ?_
              rw [all_same _ _ _ sameF.rf 1 (by omega) (by omega)]
              refine e_5 rfl rfl ?_
              refine e_0 rfl ?_
              refine e_5 rfl rfl ?_
              refine e_0 rfl ?_
              refine e_5 rfl rfl ?_
              refine e_lv [0, 1, 2, 4, 5] rfl rfl ?_
              simp only [eq_true h1, eq_false h2, eq_true h3, if_true, eq_true hz, eq_true ho, eq_false ha, if_true, if_false, not_true_eq_false, not_false_eq_true, and_true, true_and, and_false, false_and, or_true, true_or, or_false, false_or, reduceIte]
              exact mt_leaks_loop (L := L) (xs := xs) (d := d + 1) hm hk eN hS20 e0 (τ := (allF g (fun x => ps_i μ (m + 4) (40 * k + x)) S 0 σ0).2) (all_same _ _ _ sameF.rf) hI hl 9 0 (by omega)
            · exact absurd rfl h3
          · refine e_0 rfl ?_
            exact e_ri rfl rfl (by first | (simp only [eq_true h1, eq_true h2, if_true, eq_true hz, eq_true ho, eq_false ha, if_true, if_false, not_true_eq_false, not_false_eq_true, and_true, true_and, and_false, false_and, or_true, true_or, or_false, false_or, reduceIte]; done) | (simp only [eq_true h1, eq_true h2, if_true, eq_true hz, eq_true ho, eq_false ha, if_true, if_false, not_true_eq_false, not_false_eq_true, and_true, true_and, and_false, false_and, or_true, true_or, or_false, false_or, reduceIte]; rfl) | rfl) (by first | (simp only [eq_true h1, eq_true h2, if_true, eq_true hz, eq_true ho, eq_false ha, if_true, if_false, not_true_eq_false, not_false_eq_true, and_true, true_and, and_false, false_and, or_true, true_or, or_false, false_or, reduceIte]; done) | (simp only [eq_true h1, eq_true h2, if_true, eq_true hz, eq_true ho, eq_false ha, if_true, if_false, not_true_eq_false, not_false_eq_true, and_true, true_and, and_false, false_and, or_true, true_or, or_false, false_or, reduceIte]; rfl) | rfl)
        · refine e_0 rfl ?_
          exact e_ri rfl rfl (by first | (simp only [eq_false h1, if_true, eq_true hz, eq_true ho, eq_false ha, if_true, if_false, not_true_eq_false, not_false_eq_true, and_true, true_and, and_false, false_and, or_true, true_or, or_false, false_or, reduceIte]; done) | (simp only [eq_false h1, if_true, eq_true hz, eq_true ho, eq_false ha, if_true, if_false, not_true_eq_false, not_false_eq_true, and_true, true_and, and_false, false_and, or_true, true_or, or_false, false_or, reduceIte]; rfl) | rfl) (by first | (simp only [eq_false h1, if_true, eq_true hz, eq_true ho, eq_false ha, if_true, if_false, not_true_eq_false, not_false_eq_true, and_true, true_and, and_false, false_and, or_true, true_or, or_false, false_or, reduceIte]; done) | (simp only [eq_false h1, if_true, eq_true hz, eq_true ho, eq_false ha, if_true, if_false, not_true_eq_false, not_false_eq_true, and_true, true_and, and_false, false_and, or_true, true_or, or_false, false_or, reduceIte]; rfl) | rfl)
    · skip
      refine ⟨Nat.le_of_ble_eq_true rfl, ?_⟩
      refine e_2 rfl rfl ?_
      refine e_s1 rfl rfl rfl (Nat.le_of_ble_eq_true rfl) (sm_isRow _) ?_
      refine e_31b rfl (fun h1 => ?_) (fun h1 => ?_)
      · obtain ⟨rfl, hk⟩ := hr h1
        refine e_4 rfl rfl ?_
        refine m_gangs (by exact hm) rfl rfl ?_
        rw [hs 8 (by omega) (by omega)]
        refine e_31 rfl (fun h2 => ?_) (fun h2 => ?_)
        · refine e_4 rfl rfl ?_
          refine e_2 rfl rfl ?_
          refine e_v1 rfl (by first | exact hm.1 | assumption | rfl) rfl (by decide) rfl (Nat.le_of_ble_eq_true rfl) (evo (mt_np_odd hm hk eN hN40 ho)) ?_
          refine e_5 rfl rfl ?_
          refine e_2 rfl rfl ?_
          refine e_30 rfl (fun h3 => ?_) (fun h3 => ?_)
          · exact absurd h3 (by decide)
          · refine e_2 rfl rfl ?_
            exact e_ri rfl rfl (by first | (simp only [eq_true h1, eq_false h2, eq_false h3, if_true, eq_true hz, eq_false ho, if_true, if_false, not_true_eq_false, not_false_eq_true, and_true, true_and, and_false, false_and, or_true, true_or, or_false, false_or, reduceIte]; done) | (simp only [eq_true h1, eq_false h2, eq_false h3, if_true, eq_true hz, eq_false ho, if_true, if_false, not_true_eq_false, not_false_eq_true, and_true, true_and, and_false, false_and, or_true, true_or, or_false, false_or, reduceIte]; rfl) | rfl) (by first | (simp only [eq_true h1, eq_false h2, eq_false h3, if_true, eq_true hz, eq_false ho, if_true, if_false, not_true_eq_false, not_false_eq_true, and_true, true_and, and_false, false_and, or_true, true_or, or_false, false_or, reduceIte]; done) | (simp only [eq_true h1, eq_false h2, eq_false h3, if_true, eq_true hz, eq_false ho, if_true, if_false, not_true_eq_false, not_false_eq_true, and_true, true_and, and_false, false_and, or_true, true_or, or_false, false_or, reduceIte]; rfl) | rfl)
        · refine e_0 rfl ?_
          exact e_ri rfl rfl (by first | (simp only [eq_true h1, eq_true h2, if_true, eq_true hz, eq_false ho, if_true, if_false, not_true_eq_false, not_false_eq_true, and_true, true_and, and_false, false_and, or_true, true_or, or_false, false_or, reduceIte]; done) | (simp only [eq_true h1, eq_true h2, if_true, eq_true hz, eq_false ho, if_true, if_false, not_true_eq_false, not_false_eq_true, and_true, true_and, and_false, false_and, or_true, true_or, or_false, false_or, reduceIte]; rfl) | rfl) (by first | (simp only [eq_true h1, eq_true h2, if_true, eq_true hz, eq_false ho, if_true, if_false, not_true_eq_false, not_false_eq_true, and_true, true_and, and_false, false_and, or_true, true_or, or_false, false_or, reduceIte]; done) | (simp only [eq_true h1, eq_true h2, if_true, eq_true hz, eq_false ho, if_true, if_false, not_true_eq_false, not_false_eq_true, and_true, true_and, and_false, false_and, or_true, true_or, or_false, false_or, reduceIte]; rfl) | rfl)
      · refine e_0 rfl ?_
        exact e_ri rfl rfl (by first | (simp only [eq_false h1, if_true, eq_true hz, eq_false ho, if_true, if_false, not_true_eq_false, not_false_eq_true, and_true, true_and, and_false, false_and, or_true, true_or, or_false, false_or, reduceIte]; done) | (simp only [eq_false h1, if_true, eq_true hz, eq_false ho, if_true, if_false, not_true_eq_false, not_false_eq_true, and_true, true_and, and_false, false_and, or_true, true_or, or_false, false_or, reduceIte]; rfl) | rfl) (by first | (simp only [eq_false h1, if_true, eq_true hz, eq_false ho, if_true, if_false, not_true_eq_false, not_false_eq_true, and_true, true_and, and_false, false_and, or_true, true_or, or_false, false_or, reduceIte]; done) | (simp only [eq_false h1, if_true, eq_true hz, eq_false ho, if_true, if_false, not_true_eq_false, not_false_eq_true, and_true, true_and, and_false, false_and, or_true, true_or, or_false, false_or, reduceIte]; rfl) | rfl)
  · skip
    refine ⟨Nat.le_of_ble_eq_true rfl, ?_⟩
    refine e_2 rfl rfl ?_
    refine e_s1 rfl rfl rfl (Nat.le_of_ble_eq_true rfl) (sm_isRow _) ?_
    refine e_31b rfl (fun h1 => ?_) (fun h1 => ?_)
    · obtain ⟨rfl, hk⟩ := hr h1
      refine e_4 rfl rfl ?_
      refine m_gangs (by exact hm) rfl rfl ?_
      rw [hs 8 (by omega) (by omega)]
      refine e_31 rfl (fun h2 => ?_) (fun h2 => ?_)
      · refine e_4 rfl rfl ?_
        refine e_2 rfl rfl ?_
        refine e_v1 rfl (by first | exact hm.1 | assumption | rfl) rfl (by decide) rfl (Nat.le_of_ble_eq_true rfl) (evo (mt_np_no hm hk hz)) ?_
        refine e_5 rfl rfl ?_
        refine e_2 rfl rfl ?_
        refine e_30 rfl (fun h3 => ?_) (fun h3 => ?_)
        · exact absurd h3 (by decide)
        · refine e_2 rfl rfl ?_
          exact e_ri rfl rfl (by first | (simp only [eq_true h1, eq_false h2, eq_false h3, if_true, eq_false hz, if_true, if_false, not_true_eq_false, not_false_eq_true, and_true, true_and, and_false, false_and, or_true, true_or, or_false, false_or, reduceIte]; done) | (simp only [eq_true h1, eq_false h2, eq_false h3, if_true, eq_false hz, if_true, if_false, not_true_eq_false, not_false_eq_true, and_true, true_and, and_false, false_and, or_true, true_or, or_false, false_or, reduceIte]; rfl) | rfl) (by first | (simp only [eq_true h1, eq_false h2, eq_false h3, if_true, eq_false hz, if_true, if_false, not_true_eq_false, not_false_eq_true, and_true, true_and, and_false, false_and, or_true, true_or, or_false, false_or, reduceIte]; done) | (simp only [eq_true h1, eq_false h2, eq_false h3, if_true, eq_false hz, if_true, if_false, not_true_eq_false, not_false_eq_true, and_true, true_and, and_false, false_and, or_true, true_or, or_false, false_or, reduceIte]; rfl) | rfl)
      · refine e_0 rfl ?_
        exact e_ri rfl rfl (by first | (simp only [eq_true h1, eq_true h2, if_true, eq_false hz, if_true, if_false, not_true_eq_false, not_false_eq_true, and_true, true_and, and_false, false_and, or_true, true_or, or_false, false_or, reduceIte]; done) | (simp only [eq_true h1, eq_true h2, if_true, eq_false hz, if_true, if_false, not_true_eq_false, not_false_eq_true, and_true, true_and, and_false, false_and, or_true, true_or, or_false, false_or, reduceIte]; rfl) | rfl) (by first | (simp only [eq_true h1, eq_true h2, if_true, eq_false hz, if_true, if_false, not_true_eq_false, not_false_eq_true, and_true, true_and, and_false, false_and, or_true, true_or, or_false, false_or, reduceIte]; done) | (simp only [eq_true h1, eq_true h2, if_true, eq_false hz, if_true, if_false, not_true_eq_false, not_false_eq_true, and_true, true_and, and_false, false_and, or_true, true_or, or_false, false_or, reduceIte]; rfl) | rfl)
    · refine e_0 rfl ?_
      exact e_ri rfl rfl (by first | (simp only [eq_false h1, if_true, eq_false hz, if_true, if_false, not_true_eq_false, not_false_eq_true, and_true, true_and, and_false, false_and, or_true, true_or, or_false, false_or, reduceIte]; done) | (simp only [eq_false h1, if_true, eq_false hz, if_true, if_false, not_true_eq_false, not_false_eq_true, and_true, true_and, and_false, false_and, or_true, true_or, or_false, false_or, reduceIte]; rfl) | rfl) (by first | (simp only [eq_false h1, if_true, eq_false hz, if_true, if_false, not_true_eq_false, not_false_eq_true, and_true, true_and, and_false, false_and, or_true, true_or, or_false, false_or, reduceIte]; done) | (simp only [eq_false h1, if_true, eq_false hz, if_true, if_false, not_true_eq_false, not_false_eq_true, and_true, true_and, and_false, false_and, or_true, true_or, or_false, false_or, reduceIte]; rfl) | rfl)
theorem mq_isGang18 (hm : isMd μ m) (hok : shOK g σ) (a : Int32) : ps_Ev (ps_XX L xs) (d + 2) j_X8_isGang [.ref m, .int a] (MS μ m 1832 σ) (some (.int (b2i (hasF σ a)))) (MS μ m 1832 σ) := by
  rw [← b2i_c (gang_has hok a)]
  exact mm_isGang hm (by decide) a
theorem mq_isGangT (hm : isMd μ m) (hs : sameF τ σ0) (hok : shOK g σ0) (a : Int32) : ps_Ev (ps_XX L xs) (d + 2) j_X8_isGang [.ref m, .int a] (MS μ m 1832 τ) (some (.int (b2i (hasF σ0 a)))) (MS μ m 1832 τ) := by
  have h := mm_isGang (L := L) (xs := xs) (d := d) (σ := τ) hm (B := 1832) (by decide) a
  rw [hs 8 (by omega) (by omega)] at h
  rw [← b2i_c (gang_has hok a)]
  exact h
theorem mq_kinds (hm : isMd μ m) (e0 : mdG (ps_i μ) m 0 = σ0) (hs : sameF τ σ0) (hI : shI g σ0) {ii : Int32} {x : Nat} (hx : hasF σ0 ii → ii = nI x ∧ x < g) {r : Int32} {k : Nat} (hr : rowP r → r = nI k ∧ k < 6) {N : Nat} (hN : 0 ≤ ps_i μ (m + 3) k → ps_i μ (m + 3) k = nI N ∧ N ≤ 40) : evI (ps_XX L xs) (d + 8) j_X8_kinds [.ref m, .int ii, .int r] (MS μ m 1832 τ) (if ¬ (hasF σ0 ii ∧ rowP r) then (-1, MS μ m 1832 τ) else if ¬ 0 ≤ ps_i μ (m + 3) k then (-3, FM (MS μ m 1832 τ) m 1) else if ¬ N % 2 = 0 then (-3, FM (MS μ m 1832 τ) m 5) else if (allF g (fun x => ps_i μ (m + 4) (40 * k + x)) (N / 2) 0 σ0).1 = 0 then (-3, FM (MS μ m 1832 (allF g (fun x => ps_i μ (m + 4) (40 * k + x)) (N / 2) 0 σ0).2) m 3) else (bitsN (fun y => (sasF g (fun x => ps_i μ (m + 4) (40 * k + x)) (N / 2) σ0 x (nI y)).1 = 1) 6, MS μ m 1832 (lastS (fun y => (sasF g (fun x => ps_i μ (m + 4) (40 * k + x)) (N / 2) σ0 x (nI y)).2) (allF g (fun x => ps_i μ (m + 4) (40 * k + x)) (N / 2) 0 σ0).2 6))) := by
  by_cases hz : 0 ≤ ps_i μ (m + 3) k
  · obtain ⟨eN, hN40⟩ := hN hz
    by_cases ho : N % 2 = 0
    · obtain ⟨S, rfl⟩ : ∃ S, N = 2 * S := ⟨N / 2, by omega⟩
      rw [Nat.mul_div_cancel_left S (by decide)]
      by_cases ha : (allF g (fun x => ps_i μ (m + 4) (40 * k + x)) S 0 σ0).1 = 0
      · have hS20 : S ≤ 20 := by omega
        refine ⟨Nat.le_of_ble_eq_true rfl, ?_⟩
        refine e_4 rfl rfl ?_
        refine e_2 rfl rfl ?_
        refine e_v1 rfl (by first | exact hm.1 | assumption | rfl) rfl (by decide) rfl (Nat.le_of_ble_eq_true rfl) (mq_isGangT hm hs hI.1 _) ?_
        refine e_30b rfl (fun h1 => ?_) (fun h1 => ?_)
        · refine e_0 rfl ?_
          exact e_ri rfl rfl (by first | (simp only [eq_false h1, if_true, eq_true hz, eq_true ho, eq_true ha, if_true, if_false, not_true_eq_false, not_false_eq_true, and_true, true_and, and_false, false_and, or_true, true_or, or_false, false_or, reduceIte]; done) | (simp only [eq_false h1, if_true, eq_true hz, eq_true ho, eq_true ha, if_true, if_false, not_true_eq_false, not_false_eq_true, and_true, true_and, and_false, false_and, or_true, true_or, or_false, false_or, reduceIte]; rfl) | rfl) (by first | (simp only [eq_false h1, if_true, eq_true hz, eq_true ho, eq_true ha, if_true, if_false, not_true_eq_false, not_false_eq_true, and_true, true_and, and_false, false_and, or_true, true_or, or_false, false_or, reduceIte]; done) | (simp only [eq_false h1, if_true, eq_true hz, eq_true ho, eq_true ha, if_true, if_false, not_true_eq_false, not_false_eq_true, and_true, true_and, and_false, false_and, or_true, true_or, or_false, false_or, reduceIte]; rfl) | rfl)
        · refine e_2 rfl rfl ?_
          refine e_s1 rfl rfl rfl (Nat.le_of_ble_eq_true rfl) (sm_isRow _) ?_
          refine e_31b rfl (fun h2 => ?_) (fun h2 => ?_)
          · obtain ⟨rfl, hxg⟩ := hx h1
            obtain ⟨rfl, hk⟩ := hr h2
            refine e_4 rfl rfl ?_
            refine e_2 rfl rfl ?_
            refine e_v1 rfl (by first | exact hm.1 | assumption | rfl) rfl (by decide) rfl (Nat.le_of_ble_eq_true rfl) (evo (mt_np_cant hm hk eN hS20 hs (rowE_of e0) hI ha)) ?_
            refine e_5 rfl rfl ?_
            refine e_2 rfl rfl ?_
            refine e_30 rfl (fun h3 => ?_) (fun h3 => ?_)
            · exact absurd h3 (by decide)
            · refine e_2 rfl rfl ?_
              exact e_ri rfl rfl (by first | (simp only [eq_true h1, eq_true h2, eq_false h3, if_true, eq_true hz, eq_true ho, eq_true ha, if_true, if_false, not_true_eq_false, not_false_eq_true, and_true, true_and, and_false, false_and, or_true, true_or, or_false, false_or, reduceIte]; done) | (simp only [eq_true h1, eq_true h2, eq_false h3, if_true, eq_true hz, eq_true ho, eq_true ha, if_true, if_false, not_true_eq_false, not_false_eq_true, and_true, true_and, and_false, false_and, or_true, true_or, or_false, false_or, reduceIte]; rfl) | rfl) (by first | (simp only [eq_true h1, eq_true h2, eq_false h3, if_true, eq_true hz, eq_true ho, eq_true ha, if_true, if_false, not_true_eq_false, not_false_eq_true, and_true, true_and, and_false, false_and, or_true, true_or, or_false, false_or, reduceIte]; done) | (simp only [eq_true h1, eq_true h2, eq_false h3, if_true, eq_true hz, eq_true ho, eq_true ha, if_true, if_false, not_true_eq_false, not_false_eq_true, and_true, true_and, and_false, false_and, or_true, true_or, or_false, false_or, reduceIte]; rfl) | rfl)
          · refine e_0 rfl ?_
            exact e_ri rfl rfl (by first | (simp only [eq_true h1, eq_false h2, if_true, eq_true hz, eq_true ho, eq_true ha, if_true, if_false, not_true_eq_false, not_false_eq_true, and_true, true_and, and_false, false_and, or_true, true_or, or_false, false_or, reduceIte]; done) | (simp only [eq_true h1, eq_false h2, if_true, eq_true hz, eq_true ho, eq_true ha, if_true, if_false, not_true_eq_false, not_false_eq_true, and_true, true_and, and_false, false_and, or_true, true_or, or_false, false_or, reduceIte]; rfl) | rfl) (by first | (simp only [eq_true h1, eq_false h2, if_true, eq_true hz, eq_true ho, eq_true ha, if_true, if_false, not_true_eq_false, not_false_eq_true, and_true, true_and, and_false, false_and, or_true, true_or, or_false, false_or, reduceIte]; done) | (simp only [eq_true h1, eq_false h2, if_true, eq_true hz, eq_true ho, eq_true ha, if_true, if_false, not_true_eq_false, not_false_eq_true, and_true, true_and, and_false, false_and, or_true, true_or, or_false, false_or, reduceIte]; rfl) | rfl)
      · have hS20 : S ≤ 20 := by omega
        have ha1 := (all_01 _ _ _).resolve_left ha
        have hl := all_leg _ _ _ ha1
        refine ⟨Nat.le_of_ble_eq_true rfl, ?_⟩
        refine e_4 rfl rfl ?_
        refine e_2 rfl rfl ?_
        refine e_v1 rfl (by first | exact hm.1 | assumption | rfl) rfl (by decide) rfl (Nat.le_of_ble_eq_true rfl) (mq_isGangT hm hs hI.1 _) ?_
        refine e_30b rfl (fun h1 => ?_) (fun h1 => ?_)
        · refine e_0 rfl ?_
          exact e_ri rfl rfl (by first | (simp only [eq_false h1, if_true, eq_true hz, eq_true ho, eq_false ha, if_true, if_false, not_true_eq_false, not_false_eq_true, and_true, true_and, and_false, false_and, or_true, true_or, or_false, false_or, reduceIte]; done) | (simp only [eq_false h1, if_true, eq_true hz, eq_true ho, eq_false ha, if_true, if_false, not_true_eq_false, not_false_eq_true, and_true, true_and, and_false, false_and, or_true, true_or, or_false, false_or, reduceIte]; rfl) | rfl) (by first | (simp only [eq_false h1, if_true, eq_true hz, eq_true ho, eq_false ha, if_true, if_false, not_true_eq_false, not_false_eq_true, and_true, true_and, and_false, false_and, or_true, true_or, or_false, false_or, reduceIte]; done) | (simp only [eq_false h1, if_true, eq_true hz, eq_true ho, eq_false ha, if_true, if_false, not_true_eq_false, not_false_eq_true, and_true, true_and, and_false, false_and, or_true, true_or, or_false, false_or, reduceIte]; rfl) | rfl)
        · refine e_2 rfl rfl ?_
          refine e_s1 rfl rfl rfl (Nat.le_of_ble_eq_true rfl) (sm_isRow _) ?_
          refine e_31b rfl (fun h2 => ?_) (fun h2 => ?_)
          · obtain ⟨rfl, hxg⟩ := hx h1
            obtain ⟨rfl, hk⟩ := hr h2
            refine e_4 rfl rfl ?_
            refine e_2 rfl rfl ?_
            refine e_v1 rfl (by first | exact hm.1 | assumption | rfl) rfl (by decide) rfl (Nat.le_of_ble_eq_true rfl) (evo (mt_np_ok hm hk eN hS20 hs (rowE_of e0) hI ha1)) ?_
            refine e_5 rfl rfl ?_
            refine e_2 rfl rfl ?_
            refine e_30 rfl (fun h3 => ?_) (fun h3 => ?_)
            · refine e_0 rfl ?_
              refine e_5 rfl rfl ?_
              refine e_0 rfl ?_
              refine e_5 rfl rfl ?_
              refine e_lv [0, 1, 3, 4, 5] rfl rfl ?_
              simp only [eq_true h1, eq_true h2, eq_true h3, if_true, eq_true hz, eq_true ho, eq_false ha, if_true, if_false, not_true_eq_false, not_false_eq_true, and_true, true_and, and_false, false_and, or_true, true_or, or_false, false_or, reduceIte]
              exact mt_kinds_loop (L := L) (xs := xs) (d := d + 1) hm hk eN hS20 e0 (τ := (allF g (fun x => ps_i μ (m + 4) (40 * k + x)) S 0 σ0).2) (all_same _ _ _ sameF.rf) hI hl hxg 6 0 (by omega)
            · exact absurd rfl h3
          · refine e_0 rfl ?_
            exact e_ri rfl rfl (by first | (simp only [eq_true h1, eq_false h2, if_true, eq_true hz, eq_true ho, eq_false ha, if_true, if_false, not_true_eq_false, not_false_eq_true, and_true, true_and, and_false, false_and, or_true, true_or, or_false, false_or, reduceIte]; done) | (simp only [eq_true h1, eq_false h2, if_true, eq_true hz, eq_true ho, eq_false ha, if_true, if_false, not_true_eq_false, not_false_eq_true, and_true, true_and, and_false, false_and, or_true, true_or, or_false, false_or, reduceIte]; rfl) | rfl) (by first | (simp only [eq_true h1, eq_false h2, if_true, eq_true hz, eq_true ho, eq_false ha, if_true, if_false, not_true_eq_false, not_false_eq_true, and_true, true_and, and_false, false_and, or_true, true_or, or_false, false_or, reduceIte]; done) | (simp only [eq_true h1, eq_false h2, if_true, eq_true hz, eq_true ho, eq_false ha, if_true, if_false, not_true_eq_false, not_false_eq_true, and_true, true_and, and_false, false_and, or_true, true_or, or_false, false_or, reduceIte]; rfl) | rfl)
    · skip
      refine ⟨Nat.le_of_ble_eq_true rfl, ?_⟩
      refine e_4 rfl rfl ?_
      refine e_2 rfl rfl ?_
      refine e_v1 rfl (by first | exact hm.1 | assumption | rfl) rfl (by decide) rfl (Nat.le_of_ble_eq_true rfl) (mq_isGangT hm hs hI.1 _) ?_
      refine e_30b rfl (fun h1 => ?_) (fun h1 => ?_)
      · refine e_0 rfl ?_
        exact e_ri rfl rfl (by first | (simp only [eq_false h1, if_true, eq_true hz, eq_false ho, if_true, if_false, not_true_eq_false, not_false_eq_true, and_true, true_and, and_false, false_and, or_true, true_or, or_false, false_or, reduceIte]; done) | (simp only [eq_false h1, if_true, eq_true hz, eq_false ho, if_true, if_false, not_true_eq_false, not_false_eq_true, and_true, true_and, and_false, false_and, or_true, true_or, or_false, false_or, reduceIte]; rfl) | rfl) (by first | (simp only [eq_false h1, if_true, eq_true hz, eq_false ho, if_true, if_false, not_true_eq_false, not_false_eq_true, and_true, true_and, and_false, false_and, or_true, true_or, or_false, false_or, reduceIte]; done) | (simp only [eq_false h1, if_true, eq_true hz, eq_false ho, if_true, if_false, not_true_eq_false, not_false_eq_true, and_true, true_and, and_false, false_and, or_true, true_or, or_false, false_or, reduceIte]; rfl) | rfl)
      · refine e_2 rfl rfl ?_
        refine e_s1 rfl rfl rfl (Nat.le_of_ble_eq_true rfl) (sm_isRow _) ?_
        refine e_31b rfl (fun h2 => ?_) (fun h2 => ?_)
        · obtain ⟨rfl, hxg⟩ := hx h1
          obtain ⟨rfl, hk⟩ := hr h2
          refine e_4 rfl rfl ?_
          refine e_2 rfl rfl ?_
          refine e_v1 rfl (by first | exact hm.1 | assumption | rfl) rfl (by decide) rfl (Nat.le_of_ble_eq_true rfl) (evo (mt_np_odd hm hk eN hN40 ho)) ?_
          refine e_5 rfl rfl ?_
          refine e_2 rfl rfl ?_
          refine e_30 rfl (fun h3 => ?_) (fun h3 => ?_)
          · exact absurd h3 (by decide)
          · refine e_2 rfl rfl ?_
            exact e_ri rfl rfl (by first | (simp only [eq_true h1, eq_true h2, eq_false h3, if_true, eq_true hz, eq_false ho, if_true, if_false, not_true_eq_false, not_false_eq_true, and_true, true_and, and_false, false_and, or_true, true_or, or_false, false_or, reduceIte]; done) | (simp only [eq_true h1, eq_true h2, eq_false h3, if_true, eq_true hz, eq_false ho, if_true, if_false, not_true_eq_false, not_false_eq_true, and_true, true_and, and_false, false_and, or_true, true_or, or_false, false_or, reduceIte]; rfl) | rfl) (by first | (simp only [eq_true h1, eq_true h2, eq_false h3, if_true, eq_true hz, eq_false ho, if_true, if_false, not_true_eq_false, not_false_eq_true, and_true, true_and, and_false, false_and, or_true, true_or, or_false, false_or, reduceIte]; done) | (simp only [eq_true h1, eq_true h2, eq_false h3, if_true, eq_true hz, eq_false ho, if_true, if_false, not_true_eq_false, not_false_eq_true, and_true, true_and, and_false, false_and, or_true, true_or, or_false, false_or, reduceIte]; rfl) | rfl)
        · refine e_0 rfl ?_
          exact e_ri rfl rfl (by first | (simp only [eq_true h1, eq_false h2, if_true, eq_true hz, eq_false ho, if_true, if_false, not_true_eq_false, not_false_eq_true, and_true, true_and, and_false, false_and, or_true, true_or, or_false, false_or, reduceIte]; done) | (simp only [eq_true h1, eq_false h2, if_true, eq_true hz, eq_false ho, if_true, if_false, not_true_eq_false, not_false_eq_true, and_true, true_and, and_false, false_and, or_true, true_or, or_false, false_or, reduceIte]; rfl) | rfl) (by first | (simp only [eq_true h1, eq_false h2, if_true, eq_true hz, eq_false ho, if_true, if_false, not_true_eq_false, not_false_eq_true, and_true, true_and, and_false, false_and, or_true, true_or, or_false, false_or, reduceIte]; done) | (simp only [eq_true h1, eq_false h2, if_true, eq_true hz, eq_false ho, if_true, if_false, not_true_eq_false, not_false_eq_true, and_true, true_and, and_false, false_and, or_true, true_or, or_false, false_or, reduceIte]; rfl) | rfl)
  · skip
    refine ⟨Nat.le_of_ble_eq_true rfl, ?_⟩
    refine e_4 rfl rfl ?_
    refine e_2 rfl rfl ?_
    refine e_v1 rfl (by first | exact hm.1 | assumption | rfl) rfl (by decide) rfl (Nat.le_of_ble_eq_true rfl) (mq_isGangT hm hs hI.1 _) ?_
    refine e_30b rfl (fun h1 => ?_) (fun h1 => ?_)
    · refine e_0 rfl ?_
      exact e_ri rfl rfl (by first | (simp only [eq_false h1, if_true, eq_false hz, if_true, if_false, not_true_eq_false, not_false_eq_true, and_true, true_and, and_false, false_and, or_true, true_or, or_false, false_or, reduceIte]; done) | (simp only [eq_false h1, if_true, eq_false hz, if_true, if_false, not_true_eq_false, not_false_eq_true, and_true, true_and, and_false, false_and, or_true, true_or, or_false, false_or, reduceIte]; rfl) | rfl) (by first | (simp only [eq_false h1, if_true, eq_false hz, if_true, if_false, not_true_eq_false, not_false_eq_true, and_true, true_and, and_false, false_and, or_true, true_or, or_false, false_or, reduceIte]; done) | (simp only [eq_false h1, if_true, eq_false hz, if_true, if_false, not_true_eq_false, not_false_eq_true, and_true, true_and, and_false, false_and, or_true, true_or, or_false, false_or, reduceIte]; rfl) | rfl)
    · refine e_2 rfl rfl ?_
      refine e_s1 rfl rfl rfl (Nat.le_of_ble_eq_true rfl) (sm_isRow _) ?_
      refine e_31b rfl (fun h2 => ?_) (fun h2 => ?_)
      · obtain ⟨rfl, hxg⟩ := hx h1
        obtain ⟨rfl, hk⟩ := hr h2
        refine e_4 rfl rfl ?_
        refine e_2 rfl rfl ?_
        refine e_v1 rfl (by first | exact hm.1 | assumption | rfl) rfl (by decide) rfl (Nat.le_of_ble_eq_true rfl) (evo (mt_np_no hm hk hz)) ?_
        refine e_5 rfl rfl ?_
        refine e_2 rfl rfl ?_
        refine e_30 rfl (fun h3 => ?_) (fun h3 => ?_)
        · exact absurd h3 (by decide)
        · refine e_2 rfl rfl ?_
          exact e_ri rfl rfl (by first | (simp only [eq_true h1, eq_true h2, eq_false h3, if_true, eq_false hz, if_true, if_false, not_true_eq_false, not_false_eq_true, and_true, true_and, and_false, false_and, or_true, true_or, or_false, false_or, reduceIte]; done) | (simp only [eq_true h1, eq_true h2, eq_false h3, if_true, eq_false hz, if_true, if_false, not_true_eq_false, not_false_eq_true, and_true, true_and, and_false, false_and, or_true, true_or, or_false, false_or, reduceIte]; rfl) | rfl) (by first | (simp only [eq_true h1, eq_true h2, eq_false h3, if_true, eq_false hz, if_true, if_false, not_true_eq_false, not_false_eq_true, and_true, true_and, and_false, false_and, or_true, true_or, or_false, false_or, reduceIte]; done) | (simp only [eq_true h1, eq_true h2, eq_false h3, if_true, eq_false hz, if_true, if_false, not_true_eq_false, not_false_eq_true, and_true, true_and, and_false, false_and, or_true, true_or, or_false, false_or, reduceIte]; rfl) | rfl)
      · refine e_0 rfl ?_
        exact e_ri rfl rfl (by first | (simp only [eq_true h1, eq_false h2, if_true, eq_false hz, if_true, if_false, not_true_eq_false, not_false_eq_true, and_true, true_and, and_false, false_and, or_true, true_or, or_false, false_or, reduceIte]; done) | (simp only [eq_true h1, eq_false h2, if_true, eq_false hz, if_true, if_false, not_true_eq_false, not_false_eq_true, and_true, true_and, and_false, false_and, or_true, true_or, or_false, false_or, reduceIte]; rfl) | rfl) (by first | (simp only [eq_true h1, eq_false h2, if_true, eq_false hz, if_true, if_false, not_true_eq_false, not_false_eq_true, and_true, true_and, and_false, false_and, or_true, true_or, or_false, false_or, reduceIte]; done) | (simp only [eq_true h1, eq_false h2, if_true, eq_false hz, if_true, if_false, not_true_eq_false, not_false_eq_true, and_true, true_and, and_false, false_and, or_true, true_or, or_false, false_or, reduceIte]; rfl) | rfl)
end MQC
