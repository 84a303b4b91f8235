-- ===== rotas and lightening of the model, whole =====
section MQ9
variable {L : Nat} {xs : Nat → Int32} {d : Nat} {μ : ps_M} {m : Nat} {σ : Nat → Int32} {g : Nat} {τ σ0 : Nat → Int32}
theorem mt_rota_loop (hm : isMd μ m) {k S : Nat} (hk : k < 6) (eS0 : ps_i μ (m + 3) k = nI S) (hS0 : 0 < S) (hS12 : S ≤ 12) (c : Int32) : ∀ (n i : Nat) (σ : Nat → Int32), i + n = 40 → shI g σ → tlF σ ≤ n → nI i = σ 5 - c → ps_To (ps_XX L xs) (ps_Ev (ps_XX L xs) (d + 5)) j_X8_rota (ps_rt j_X8_rota (some (.int (if sunkF (rotaF g (fun x => ps_i μ (m + 4) (40 * k + x)) S n (i % S) σ) then -9 else (rotaF g (fun x => ps_i μ (m + 4) (40 * k + x)) S n (i % S) σ) 0))) (MS (ps_sI μ m 9 ((rotaF g (fun x => ps_i μ (m + 4) (40 * k + x)) S n (i % S) σ) 5 - c)) m 1832 (rotaF g (fun x => ps_i μ (m + 4) (40 * k + x)) S n (i % S) σ))) (83, [(0, .ref (m)), (1, .int (nI k))], [], MS (ps_sI μ m 9 (nI i)) m 1832 σ) := by
  intro n
  induction n with
  | zero =>
    intro i σ hi hI ht hy
    have hmod := Nat.mod_lt i hS0
    have eS : ps_i (ps_sI μ m 9 (nI i)) (m + 3) k = nI S := (sI_off (by omega)).trans eS0
    refine e_4 rfl rfl ?_
    refine e_0 rfl ?_
    refine e_v1 rfl (by first | exact hm.1 | assumption | rfl) rfl (by decide) rfl (Nat.le_of_ble_eq_true rfl) (mm_over (B := 1832) (by exact hm) (by decide) hI) ?_
    refine e_31b rfl (fun h1 => ?_) (fun h1 => ?_)
    · refine e_4 rfl rfl ?_
      refine e_0 rfl ?_
      refine e_v1 rfl (by first | exact hm.1 | assumption | rfl) rfl (by decide) rfl (Nat.le_of_ble_eq_true rfl) (mm_isSunk (B := 1832) (by exact hm) (by decide)) ?_
      refine e_30b rfl (fun h2 => ?_) (fun h2 => ?_)
      · refine e_4 rfl rfl ?_
        refine e_gr rfl hm.1 rfl hm.2.2.2.2.2.2.2.2.2.1 ?_
        refine e_0 rfl ?_
        refine m_ald (k := 1) (x := 0) (by exact hm) (by omega) (by first | rfl | (simp only [nI_add, nI_1, Nat.zero_add]; first | done | exact congrArg nI (by omega))) (by omega) (by first | rfl | (rw [mdX_lo (by omega) (by omega)]; omega) | (rw [mdX_hi (by omega)]; omega)) rfl ?_
        exact e_ri rfl rfl (by first | (simp only [rotaF, eq_true h1, eq_false h2, if_true, if_true, if_false, not_true_eq_false, not_false_eq_true, and_true, true_and, and_false, false_and, or_true, true_or, or_false, false_or, Int32.add_zero]; done) | (simp only [rotaF, eq_true h1, eq_false h2, if_true, if_true, if_false, not_true_eq_false, not_false_eq_true, and_true, true_and, and_false, false_and, or_true, true_or, or_false, false_or, Int32.add_zero]; rfl) | rfl) (by rw [hy]; first | (simp only [rotaF, eq_true h1, eq_false h2, if_true, if_true, if_false, not_true_eq_false, not_false_eq_true, and_true, true_and, and_false, false_and, or_true, true_or, or_false, false_or, Int32.add_zero]; done) | (simp only [rotaF, eq_true h1, eq_false h2, if_true, if_true, if_false, not_true_eq_false, not_false_eq_true, and_true, true_and, and_false, false_and, or_true, true_or, or_false, false_or, Int32.add_zero]; rfl) | rfl)
      · refine e_0 rfl ?_
        refine e_42 rfl ?_
        exact e_ri rfl rfl (by first | (simp only [rotaF, eq_true h1, eq_true h2, if_true, if_true, if_false, not_true_eq_false, not_false_eq_true, and_true, true_and, and_false, false_and, or_true, true_or, or_false, false_or, Int32.add_zero]; done) | (simp only [rotaF, eq_true h1, eq_true h2, if_true, if_true, if_false, not_true_eq_false, not_false_eq_true, and_true, true_and, and_false, false_and, or_true, true_or, or_false, false_or, Int32.add_zero]; rfl) | rfl) (by rw [hy]; first | (simp only [rotaF, eq_true h1, eq_true h2, if_true, if_true, if_false, not_true_eq_false, not_false_eq_true, and_true, true_and, and_false, false_and, or_true, true_or, or_false, false_or, Int32.add_zero]; done) | (simp only [rotaF, eq_true h1, eq_true h2, if_true, if_true, if_false, not_true_eq_false, not_false_eq_true, and_true, true_and, and_false, false_and, or_true, true_or, or_false, false_or, Int32.add_zero]; rfl) | rfl)
    · exact absurd (tl_0 hI (by omega)) h1
  | succ n ih =>
    intro i σ hi hI ht hy
    have hmod := Nat.mod_lt i hS0
    have eS : ps_i (ps_sI μ m 9 (nI i)) (m + 3) k = nI S := (sI_off (by omega)).trans eS0
    refine e_4 rfl rfl ?_
    refine e_0 rfl ?_
    refine e_v1 rfl (by first | exact hm.1 | assumption | rfl) rfl (by decide) rfl (Nat.le_of_ble_eq_true rfl) (mm_over (B := 1832) (by exact hm) (by decide) hI) ?_
    refine e_31b rfl (fun h1 => ?_) (fun h1 => ?_)
    · refine e_4 rfl rfl ?_
      refine e_0 rfl ?_
      refine e_v1 rfl (by first | exact hm.1 | assumption | rfl) rfl (by decide) rfl (Nat.le_of_ble_eq_true rfl) (mm_isSunk (B := 1832) (by exact hm) (by decide)) ?_
      refine e_30b rfl (fun h2 => ?_) (fun h2 => ?_)
      · refine e_4 rfl rfl ?_
        refine e_gr rfl hm.1 rfl hm.2.2.2.2.2.2.2.2.2.1 ?_
        refine e_0 rfl ?_
        refine m_ald (k := 1) (x := 0) (by exact hm) (by omega) (by first | rfl | (simp only [nI_add, nI_1, Nat.zero_add]; first | done | exact congrArg nI (by omega))) (by omega) (by first | rfl | (rw [mdX_lo (by omega) (by omega)]; omega) | (rw [mdX_hi (by omega)]; omega)) rfl ?_
        exact e_ri rfl rfl (by first | (simp only [rotaF, eq_true h1, eq_false h2, if_true, if_true, if_false, not_true_eq_false, not_false_eq_true, and_true, true_and, and_false, false_and, or_true, true_or, or_false, false_or, Int32.add_zero]; done) | (simp only [rotaF, eq_true h1, eq_false h2, if_true, if_true, if_false, not_true_eq_false, not_false_eq_true, and_true, true_and, and_false, false_and, or_true, true_or, or_false, false_or, Int32.add_zero]; rfl) | rfl) (by rw [hy]; first | (simp only [rotaF, eq_true h1, eq_false h2, if_true, if_true, if_false, not_true_eq_false, not_false_eq_true, and_true, true_and, and_false, false_and, or_true, true_or, or_false, false_or, Int32.add_zero]; done) | (simp only [rotaF, eq_true h1, eq_false h2, if_true, if_true, if_false, not_true_eq_false, not_false_eq_true, and_true, true_and, and_false, false_and, or_true, true_or, or_false, false_or, Int32.add_zero]; rfl) | rfl)
      · refine e_0 rfl ?_
        refine e_42 rfl ?_
        exact e_ri rfl rfl (by first | (simp only [rotaF, eq_true h1, eq_true h2, if_true, if_true, if_false, not_true_eq_false, not_false_eq_true, and_true, true_and, and_false, false_and, or_true, true_or, or_false, false_or, Int32.add_zero]; done) | (simp only [rotaF, eq_true h1, eq_true h2, if_true, if_true, if_false, not_true_eq_false, not_false_eq_true, and_true, true_and, and_false, false_and, or_true, true_or, or_false, false_or, Int32.add_zero]; rfl) | rfl) (by rw [hy]; first | (simp only [rotaF, eq_true h1, eq_true h2, if_true, if_true, if_false, not_true_eq_false, not_false_eq_true, and_true, true_and, and_false, false_and, or_true, true_or, or_false, false_or, Int32.add_zero]; done) | (simp only [rotaF, eq_true h1, eq_true h2, if_true, if_true, if_false, not_true_eq_false, not_false_eq_true, and_true, true_and, and_false, false_and, or_true, true_or, or_false, false_or, Int32.add_zero]; rfl) | rfl)
    · refine e_4 rfl rfl ?_
      refine e_4 rfl rfl ?_
      refine e_gr rfl hm.1 rfl hm.2.2.2.2.2.2.2.2.2.2.2.2.1 ?_
      refine e_0 rfl ?_
      refine e_2 rfl rfl ?_
      refine e_11 rfl ?_
      refine e_4 rfl rfl ?_
      refine m_fi (by exact hm) rfl rfl (by decide) (by decide) (by decide) ?_
      rw [sI_at]
      refine e_4 rfl rfl ?_
      refine e_gr rfl hm.1 rfl hm.2.2.2.2.2.2.2.2.2.2.2.1 ?_
      refine e_2 rfl rfl ?_
      refine m_a_ld (i := k) (c := 3) (n := 6) (by first | rfl | (simp only [← nI_add, ← pk_mul]; rfl) | (simp only [nI_add, pk_mul, nI_1]; done)) (by omega) (by decide) rfl hm.2.2.2.1 (by decide) ?_
      rw [eS]
      refine e_18 rfl (by exact nI_ne0 hS0 (by omega)) ?_
      rw [pk_rem (by omega) (by omega) (by omega)]
      refine e_9 rfl ?_
      refine m_a_ld (i := (40 * k + i % S)) (c := 4) (n := 240) (by rw [← nI_add, ← pk_mul]; rfl) (by omega) (by decide) rfl hm.2.2.2.2.1 (by decide) ?_
      rw [sI_off (by omega)]
      refine e_v1v rfl (by first | exact hm.1 | assumption | rfl) rfl (by decide) rfl (Nat.le_of_ble_eq_true rfl) (mm_turn (by exact hm) hI _) ?_
      refine e_4 rfl rfl ?_
      refine e_28 rfl rfl ?_
      refine m_fi (by exact hm) rfl rfl (by decide) (by decide) (by decide) ?_
      rw [sI_at]
      refine e_0 rfl ?_
      refine e_9 rfl ?_
      refine m_pi (by exact hm) rfl rfl (by decide) (by decide) (by decide) ?_
      refine e_42 rfl ?_
      refine e_lv [0, 1] rfl rfl ?_
      show ps_To _ _ _ _ (83, [(0, .ref _), (1, .int _)], [], _)
      rw [sI_sI, nI_1]
      have h := ih (i + 1) (restF g σ (ps_i μ (m + 4) (40 * k + i % S))) (by omega) (shI_rest hI (over_lt (by assumption))) (tl_pass hI (by assumption) (by omega)) (by rw [rest_5, nI_succ, hy]; grind)
      rw [← mod_step hS0] at h
      simp only [rotaF, eq_false h1, if_true, if_true, if_false, not_true_eq_false, not_false_eq_true, and_true, true_and, and_false, false_and, or_true, true_or, or_false, false_or, Int32.add_zero]
      exact h
theorem mq_rota (hm : isMd μ m) (e0 : mdG (ps_i μ) m 0 = σ0) (hs : sameF τ σ0) (hI : shI g σ0) {r : Int32} {k : Nat} (hr : rowP r → r = nI k ∧ k < 6) {S : Nat} (hS : 0 ≤ ps_i μ (m + 3) k → ps_i μ (m + 3) k = nI S ∧ S ≤ 40) : evI (ps_XX L xs) (d + 7) j_X8_rota [.ref m, .int r] (MS μ m 1832 τ) (if ¬ rowP r then (-1, MS μ m 1832 τ) else if σ0 8 = 0 then (-4, MS μ m 1832 τ) else if ¬ 0 ≤ ps_i μ (m + 3) k then (-3, FM (MS μ m 1832 τ) m 1) else if ps_i μ (m + 3) k = 0 ∨ ¬ ps_i μ (m + 3) k ≤ 12 then (-3, FM (MS μ m 1832 τ) m 5) else if ¬ actsB (fun x => ps_i μ (m + 4) (40 * k + x)) S = true then (-3, FM (MS μ m 1832 τ) m 3) else (if sunkF (rotaF g (fun x => ps_i μ (m + 4) (40 * k + x)) S 40 0 σ0) then -9 else (rotaF g (fun x => ps_i μ (m + 4) (40 * k + x)) S 40 0 σ0) 0, MS (ps_sI μ m 9 ((rotaF g (fun x => ps_i μ (m + 4) (40 * k + x)) S 40 0 σ0) 5 - σ0 5)) m 1832 (rotaF g (fun x => ps_i μ (m + 4) (40 * k + x)) S 40 0 σ0))) := by
  refine ⟨Nat.le_of_ble_eq_true rfl, ?_⟩
  refine e_2 rfl rfl ?_
  refine e_s1 rfl rfl rfl (Nat.le_of_ble_eq_true rfl) (sm_isRow _) ?_
  refine e_31b rfl (fun h1 => ?_) (fun h1 => ?_)
  · obtain ⟨rfl, hk⟩ := hr h1
    refine e_4 rfl rfl ?_
    refine m_gangs (by exact hm) rfl rfl ?_
    rw [hs 8 (by omega) (by omega)]
    refine e_31 rfl (fun h2 => ?_) (fun h2 => ?_)
    · refine e_4 rfl rfl ?_
      refine e_gr rfl hm.1 rfl hm.2.2.2.2.2.2.2.2.2.2.2.1 ?_
      refine e_2 rfl rfl ?_
      refine m_a_ld (i := k) (c := 3) (n := 6) (by first | rfl | (simp only [← nI_add, ← pk_mul]; rfl) | (simp only [nI_add, pk_mul, nI_1]; done)) (by omega) (by decide) rfl hm.2.2.2.1 (by decide) ?_
      refine e_33 rfl (fun h3 => ?_) (fun h3 => ?_)
      · obtain ⟨eS, hS40⟩ := hS h3
        refine e_4 rfl rfl ?_
        refine e_gr rfl hm.1 rfl hm.2.2.2.2.2.2.2.2.2.2.2.1 ?_
        refine e_2 rfl rfl ?_
        refine m_a_ld (i := k) (c := 3) (n := 6) (by first | rfl | (simp only [← nI_add, ← pk_mul]; rfl) | (simp only [nI_add, pk_mul, nI_1]; done)) (by omega) (by decide) rfl hm.2.2.2.1 (by decide) ?_
        refine e_30 rfl (fun h4 => ?_) (fun h4 => ?_)
        · refine e_4 rfl rfl ?_
          refine e_0 rfl ?_
          refine e_v1 rfl (by first | exact hm.1 | assumption | rfl) rfl (by decide) rfl (Nat.le_of_ble_eq_true rfl) (evo (mq_find (μ := MS μ m 1832 τ) hm (by decide))) ?_
          exact e_ri rfl rfl (by first | (simp only [eq_true h1, eq_false h2, eq_true h3, eq_true h4, if_true, if_true, if_false, not_true_eq_false, not_false_eq_true, and_true, true_and, and_false, false_and, or_true, true_or, or_false, false_or, reduceIte]; done) | (simp only [eq_true h1, eq_false h2, eq_true h3, eq_true h4, if_true, if_true, if_false, not_true_eq_false, not_false_eq_true, and_true, true_and, and_false, false_and, or_true, true_or, or_false, false_or, reduceIte]; rfl) | rfl) (by first | (simp only [eq_true h1, eq_false h2, eq_true h3, eq_true h4, if_true, if_true, if_false, not_true_eq_false, not_false_eq_true, and_true, true_and, and_false, false_and, or_true, true_or, or_false, false_or, reduceIte]; done) | (simp only [eq_true h1, eq_false h2, eq_true h3, eq_true h4, if_true, if_true, if_false, not_true_eq_false, not_false_eq_true, and_true, true_and, and_false, false_and, or_true, true_or, or_false, false_or, reduceIte]; rfl) | rfl)
        · refine e_4 rfl rfl ?_
          refine e_gr rfl hm.1 rfl hm.2.2.2.2.2.2.2.2.2.2.2.1 ?_
          refine e_2 rfl rfl ?_
          refine m_a_ld (i := k) (c := 3) (n := 6) (by first | rfl | (simp only [← nI_add, ← pk_mul]; rfl) | (simp only [nI_add, pk_mul, nI_1]; done)) (by omega) (by decide) rfl hm.2.2.2.1 (by decide) ?_
          refine e_0 rfl ?_
          refine e_41 rfl (fun h5 => ?_) (fun h5 => ?_)
          · refine e_4 rfl rfl ?_
            refine e_2 rfl rfl ?_
            refine e_v1 rfl (by first | exact hm.1 | assumption | rfl) rfl (by decide) rfl (Nat.le_of_ble_eq_true rfl) (mt_areActs hm hk eS hS40) ?_
            refine e_31b rfl (fun h6 => ?_) (fun h6 => ?_)
            · refine e_4 rfl rfl ?_
              refine e_v0v rfl (by first | exact hm.1 | assumption | rfl) rfl (by decide) rfl (Nat.le_of_ble_eq_true rfl) (mt_lay hm e0 hs) ?_
              refine e_4 rfl rfl ?_
              refine e_0 rfl ?_
              refine m_pi (by exact hm) rfl rfl (by decide) (by decide) (by decide) ?_
              simp only [eq_true h1, eq_false h2, eq_true h3, eq_false h4, eq_true h5, eq_true h6, if_true, if_true, if_false, not_true_eq_false, not_false_eq_true, and_true, true_and, and_false, false_and, or_true, true_or, or_false, false_or, reduceIte]
              have hS0 : 0 < S := Nat.pos_of_ne_zero (fun z => h4 (by rw [eS, z]; rfl))
              have hS12 : S ≤ 12 := by
                rw [eS] at h5
                exact (nI_leI (by omega) (by omega)).mp h5
              have h := mt_rota_loop (L := L) (xs := xs) (d := d + 1) hm hk eS hS0 hS12 (σ0 5) 40 0 σ0 (by omega) hI (tl_40 hI) (by grind [nI_0])
              rw [Nat.zero_mod] at h
              exact h
            · refine e_4 rfl rfl ?_
              refine e_0 rfl ?_
              refine e_v1 rfl (by first | exact hm.1 | assumption | rfl) rfl (by decide) rfl (Nat.le_of_ble_eq_true rfl) (evo (mq_find (μ := MS μ m 1832 τ) hm (by decide))) ?_
              exact e_ri rfl rfl (by first | (simp only [eq_true h1, eq_false h2, eq_true h3, eq_false h4, eq_true h5, eq_false h6, if_true, if_true, if_false, not_true_eq_false, not_false_eq_true, and_true, true_and, and_false, false_and, or_true, true_or, or_false, false_or, reduceIte]; done) | (simp only [eq_true h1, eq_false h2, eq_true h3, eq_false h4, eq_true h5, eq_false h6, if_true, if_true, if_false, not_true_eq_false, not_false_eq_true, and_true, true_and, and_false, false_and, or_true, true_or, or_false, false_or, reduceIte]; rfl) | rfl) (by first | (simp only [eq_true h1, eq_false h2, eq_true h3, eq_false h4, eq_true h5, eq_false h6, if_true, if_true, if_false, not_true_eq_false, not_false_eq_true, and_true, true_and, and_false, false_and, or_true, true_or, or_false, false_or, reduceIte]; done) | (simp only [eq_true h1, eq_false h2, eq_true h3, eq_false h4, eq_true h5, eq_false h6, if_true, if_true, if_false, not_true_eq_false, not_false_eq_true, and_true, true_and, and_false, false_and, or_true, true_or, or_false, false_or, reduceIte]; rfl) | rfl)
          · refine e_4 rfl rfl ?_
            refine e_0 rfl ?_
            refine e_v1 rfl (by first | exact hm.1 | assumption | rfl) rfl (by decide) rfl (Nat.le_of_ble_eq_true rfl) (evo (mq_find (μ := MS μ m 1832 τ) hm (by decide))) ?_
            exact e_ri rfl rfl (by first | (simp only [eq_true h1, eq_false h2, eq_true h3, eq_false h4, eq_false h5, if_true, if_true, if_false, not_true_eq_false, not_false_eq_true, and_true, true_and, and_false, false_and, or_true, true_or, or_false, false_or, reduceIte]; done) | (simp only [eq_true h1, eq_false h2, eq_true h3, eq_false h4, eq_false h5, if_true, if_true, if_false, not_true_eq_false, not_false_eq_true, and_true, true_and, and_false, false_and, or_true, true_or, or_false, false_or, reduceIte]; rfl) | rfl) (by first | (simp only [eq_true h1, eq_false h2, eq_true h3, eq_false h4, eq_false h5, if_true, if_true, if_false, not_true_eq_false, not_false_eq_true, and_true, true_and, and_false, false_and, or_true, true_or, or_false, false_or, reduceIte]; done) | (simp only [eq_true h1, eq_false h2, eq_true h3, eq_false h4, eq_false h5, if_true, if_true, if_false, not_true_eq_false, not_false_eq_true, and_true, true_and, and_false, false_and, or_true, true_or, or_false, false_or, reduceIte]; rfl) | rfl)
      · refine e_4 rfl rfl ?_
        refine e_0 rfl ?_
        refine e_v1 rfl (by first | exact hm.1 | assumption | rfl) rfl (by decide) rfl (Nat.le_of_ble_eq_true rfl) (evo (mq_find (μ := MS μ m 1832 τ) hm (by decide))) ?_
        exact e_ri rfl rfl (by first | (simp only [eq_true h1, eq_false h2, eq_false h3, if_true, if_true, if_false, not_true_eq_false, not_false_eq_true, and_true, true_and, and_false, false_and, or_true, true_or, or_false, false_or, reduceIte]; done) | (simp only [eq_true h1, eq_false h2, eq_false h3, if_true, if_true, if_false, not_true_eq_false, not_false_eq_true, and_true, true_and, and_false, false_and, or_true, true_or, or_false, false_or, reduceIte]; rfl) | rfl) (by first | (simp only [eq_true h1, eq_false h2, eq_false h3, if_true, if_true, if_false, not_true_eq_false, not_false_eq_true, and_true, true_and, and_false, false_and, or_true, true_or, or_false, false_or, reduceIte]; done) | (simp only [eq_true h1, eq_false h2, eq_false h3, if_true, if_true, if_false, not_true_eq_false, not_false_eq_true, and_true, true_and, and_false, false_and, or_true, true_or, or_false, false_or, reduceIte]; rfl) | rfl)
    · refine e_0 rfl ?_
      exact e_ri rfl rfl (by first | (simp only [eq_true h1, eq_true h2, if_true, if_true, if_false, not_true_eq_false, not_false_eq_true, and_true, true_and, and_false, false_and, or_true, true_or, or_false, false_or, reduceIte]; done) | (simp only [eq_true h1, eq_true h2, if_true, if_true, if_false, not_true_eq_false, not_false_eq_true, and_true, true_and, and_false, false_and, or_true, true_or, or_false, false_or, reduceIte]; rfl) | rfl) (by first | (simp only [eq_true h1, eq_true h2, if_true, if_true, if_false, not_true_eq_false, not_false_eq_true, and_true, true_and, and_false, false_and, or_true, true_or, or_false, false_or, reduceIte]; done) | (simp only [eq_true h1, eq_true h2, if_true, if_true, if_false, not_true_eq_false, not_false_eq_true, and_true, true_and, and_false, false_and, or_true, true_or, or_false, false_or, reduceIte]; rfl) | rfl)
  · refine e_0 rfl ?_
    exact e_ri rfl rfl (by first | (simp only [eq_false h1, if_true, if_true, if_false, not_true_eq_false, not_false_eq_true, and_true, true_and, and_false, false_and, or_true, true_or, or_false, false_or, reduceIte]; done) | (simp only [eq_false h1, if_true, if_true, if_false, not_true_eq_false, not_false_eq_true, and_true, true_and, and_false, false_and, or_true, true_or, or_false, false_or, reduceIte]; rfl) | rfl) (by first | (simp only [eq_false h1, if_true, if_true, if_false, not_true_eq_false, not_false_eq_true, and_true, true_and, and_false, false_and, or_true, true_or, or_false, false_or, reduceIte]; done) | (simp only [eq_false h1, if_true, if_true, if_false, not_true_eq_false, not_false_eq_true, and_true, true_and, and_false, false_and, or_true, true_or, or_false, false_or, reduceIte]; rfl) | rfl)
theorem mt_light_in (hm : isMd μ m) (a y : Int32) {K : ps_F → Prop} {r : Option Value} {μ' : ps_M} (hK : K = ps_rt j_X8_lighten r μ') : ∀ (n : Nat) (σ : Nat → Int32), shI g σ → tlF σ ≤ n → ps_To (ps_XX L xs) (ps_Ev (ps_XX L xs) (d + 5)) j_X8_lighten K (77, [(2, .int y), (0, .ref m), (1, .int a)], [], MS μ m 1832 (againF g a n σ)) → ps_To (ps_XX L xs) (ps_Ev (ps_XX L xs) (d + 5)) j_X8_lighten K (59, [(2, .int y), (0, .ref m), (1, .int a)], [], MS μ m 1832 σ) := by
  subst hK
  intro n
  induction n with
  | zero =>
    intro σ hI ht hk
    refine e_4 rfl rfl ?_
    refine e_0 rfl ?_
    refine e_v1 rfl (by first | exact hm.1 | assumption | rfl) rfl (by decide) rfl (Nat.le_of_ble_eq_true rfl) (mm_over (B := 1832) (by exact hm) (by decide) hI) ?_
    refine e_31b rfl (fun h1 => ?_) (fun h1 => ?_)
    · exact hk
    · exact absurd (tl_0 hI (by omega)) h1
  | succ n ih =>
    intro σ hI ht hk
    refine e_4 rfl rfl ?_
    refine e_0 rfl ?_
    refine e_v1 rfl (by first | exact hm.1 | assumption | rfl) rfl (by decide) rfl (Nat.le_of_ble_eq_true rfl) (mm_over (B := 1832) (by exact hm) (by decide) hI) ?_
    refine e_31b rfl (fun h1 => ?_) (fun h1 => ?_)
    · simp only [againF, eq_true h1, if_true, if_true, if_false, not_true_eq_false, not_false_eq_true, and_true, true_and, and_false, false_and, or_true, true_or, or_false, false_or, Int32.add_zero] at hk
      exact hk
    · refine e_4 rfl rfl ?_
      refine e_2 rfl rfl ?_
      refine e_v1v rfl (by first | exact hm.1 | assumption | rfl) rfl (by decide) rfl (Nat.le_of_ble_eq_true rfl) (mm_turn (by exact hm) hI _) ?_
      refine e_42 rfl ?_
      simp only [againF, eq_false h1, if_true, if_true, if_false, not_true_eq_false, not_false_eq_true, and_true, true_and, and_false, false_and, or_true, true_or, or_false, false_or, Int32.add_zero] at hk
      exact ih _ (shI_rest hI (over_lt (by assumption))) (tl_pass hI (by assumption) (by omega)) hk
theorem again_more {g : Nat} {a : Int32} : ∀ n σ, shI g σ → tlF σ ≤ n → ∀ k, againF g a (n + k) σ = againF g a n σ
  | 0, σ, hI, ht, k => (again_over (tl_0 hI ht) (0 + k)).trans rfl
  | n + 1, σ, hI, ht, k => by
    rw [show n + 1 + k = (n + k) + 1 by omega]
    unfold againF
    by_cases ho : overF σ
    · rw [if_pos ho, if_pos ho]
    · rw [if_neg ho, if_neg ho]
      exact again_more n _ (shI_rest hI (over_lt ho)) (tl_pass hI ho ht) k
theorem mt_light_loop (hm : isMd μ m) (e0 : mdG (ps_i μ) m 0 = σ0) (hI : shI g σ0) (a : Int32) {c : Nat} (hc : c ≤ 9) (ec : σ0 2 = nI c) : ∀ (n i : Nat) (τ : Nat → Int32), i + n = c + 1 → sameF τ σ0 → ps_To (ps_XX L xs) (ps_Ev (ps_XX L xs) (d + 5)) j_X8_lighten (ps_rt j_X8_lighten (some (.int (lightF g a σ0 n i τ).1)) (MS μ m 1832 (lightF g a σ0 n i τ).2)) (21, [(2, .int (nI i)), (0, .ref (m)), (1, .int (a))], [], MS μ m 1832 τ) := by
  intro n
  induction n with
  | zero =>
    intro i τ hi hs
    obtain rfl : i = c + 1 := by omega
    have ec2 : ps_i μ (m + 1) 2 = nI c := by rw [← ec, ← e0]; rfl
    refine e_2 rfl rfl ?_
    refine e_4 rfl rfl ?_
    refine e_gr rfl hm.1 rfl hm.2.2.2.2.2.2.2.2.2.1 ?_
    refine e_0 rfl ?_
    refine m_r_ld (i := 2) (by exact hm) (by first | rfl | (simp only [← nI_add, ← pk_mul]; rfl) | (simp only [nI_add, pk_mul, nI_1]; done)) (by omega) (by omega) rfl ?_
    rw [ec2]
    refine e_40 rfl (fun h1 => ?_) (fun h1 => ?_)
    · refine e_0 rfl ?_
      exact e_ri rfl rfl (by first | (simp only [lightF, eq_true h1, if_true, if_true, if_false, not_true_eq_false, not_false_eq_true, and_true, true_and, and_false, false_and, or_true, true_or, or_false, false_or, Int32.add_zero]; done) | (simp only [lightF, eq_true h1, if_true, if_true, if_false, not_true_eq_false, not_false_eq_true, and_true, true_and, and_false, false_and, or_true, true_or, or_false, false_or, Int32.add_zero]; rfl) | rfl) (by first | (simp only [lightF, eq_true h1, if_true, if_true, if_false, not_true_eq_false, not_false_eq_true, and_true, true_and, and_false, false_and, or_true, true_or, or_false, false_or, Int32.add_zero]; done) | (simp only [lightF, eq_true h1, if_true, if_true, if_false, not_true_eq_false, not_false_eq_true, and_true, true_and, and_false, false_and, or_true, true_or, or_false, false_or, Int32.add_zero]; rfl) | rfl)
    · exact absurd (nI_lt (by omega) (by omega)) h1
  | succ n ih =>
    intro i τ hi hs
    have ec2 : ps_i μ (m + 1) 2 = nI c := by rw [← ec, ← e0]; rfl
    refine e_2 rfl rfl ?_
    refine e_4 rfl rfl ?_
    refine e_gr rfl hm.1 rfl hm.2.2.2.2.2.2.2.2.2.1 ?_
    refine e_0 rfl ?_
    refine m_r_ld (i := 2) (by exact hm) (by first | rfl | (simp only [← nI_add, ← pk_mul]; rfl) | (simp only [nI_add, pk_mul, nI_1]; done)) (by omega) (by omega) rfl ?_
    rw [ec2]
    refine e_40 rfl (fun h1 => ?_) (fun h1 => ?_)
    · exact absurd h1 (nI_nlt (by omega) (by omega))
    · refine e_4 rfl rfl ?_
      refine e_v0v rfl (by first | exact hm.1 | assumption | rfl) rfl (by decide) rfl (Nat.le_of_ble_eq_true rfl) (mt_lay hm e0 hs) ?_
      refine e_4 rfl rfl ?_
      refine e_gr rfl hm.1 rfl hm.2.2.2.2.2.2.2.2.2.1 ?_
      refine e_0 rfl ?_
      refine e_29 rfl rfl rfl ?_
      refine m_ald (k := 2) (x := 2) (by exact hm) (by omega) (by first | rfl | (simp only [nI_add, nI_1, Nat.zero_add]; first | done | exact congrArg nI (by omega))) (by omega) (by first | rfl | (rw [mdX_lo (by omega) (by omega)]; omega) | (rw [mdX_hi (by omega)]; omega)) rfl ?_
      refine e_2 rfl rfl ?_
      refine e_10 rfl ?_
      refine m_ast (k := 2) (x := 2) (by exact hm) (by omega) (by first | rfl | (simp only [nI_add, nI_1, Nat.zero_add]; first | done | exact congrArg nI (by omega))) (by omega) (by first | rfl | (rw [mdX_lo (by omega) (by omega)]; omega) | (rw [mdX_hi (by omega)]; omega)) rfl ?_
      refine e_4 rfl rfl ?_
      refine e_gr rfl hm.1 rfl hm.2.2.2.2.2.2.2.2.2.1 ?_
      refine e_0 rfl ?_
      refine e_29 rfl rfl rfl ?_
      refine m_ald (k := 3) (x := 3) (by exact hm) (by omega) (by first | rfl | (simp only [nI_add, nI_1, Nat.zero_add]; first | done | exact congrArg nI (by omega))) (by omega) (by first | rfl | (rw [mdX_lo (by omega) (by omega)]; omega) | (rw [mdX_hi (by omega)]; omega)) rfl ?_
      refine e_2 rfl rfl ?_
      refine e_9 rfl ?_
      refine m_ast (k := 3) (x := 3) (by exact hm) (by omega) (by first | rfl | (simp only [nI_add, nI_1, Nat.zero_add]; first | done | exact congrArg nI (by omega))) (by omega) (by first | rfl | (rw [mdX_lo (by omega) (by omega)]; omega) | (rw [mdX_hi (by omega)]; omega)) rfl ?_
      have hIl : shI g (litS σ0 i) := shI_lit hI hc ec (by omega)
      refine e_lv [0, 1, 2] rfl rfl ?_
      refine mt_light_in (L := L) (xs := xs) (d := d) hm a (nI i) rfl 40 (litS σ0 i) hIl (tl_40 hIl) ?_
      refine e_4 rfl rfl ?_
      refine e_0 rfl ?_
      refine e_v1 rfl (by first | exact hm.1 | assumption | rfl) rfl (by decide) rfl (Nat.le_of_ble_eq_true rfl) (mm_isSunk (B := 1832) hm (by decide)) ?_
      refine e_31b rfl (fun h2 => ?_) (fun h2 => ?_)
      · refine e_8 rfl rfl rfl ?_
        refine e_42 rfl ?_
        refine e_lv [0, 1, 2] rfl rfl ?_
        show ps_To _ _ _ _ (21, [(2, .int _), (0, .ref _), (1, .int _)], [], _)
        rw [nI_1]
        have h := ih (i + 1) (againF g a 40 (litS σ0 i)) (by omega) (again_same _ _ lit_same)
        simp only [lightF, eq_false h1, eq_true h2, if_true, if_true, if_false, not_true_eq_false, not_false_eq_true, and_true, true_and, and_false, false_and, or_true, true_or, or_false, false_or, Int32.add_zero]
        exact h
      · refine e_2 rfl rfl ?_
        exact e_ri rfl rfl (by first | (simp only [lightF, eq_false h1, eq_false h2, if_true, if_true, if_false, not_true_eq_false, not_false_eq_true, and_true, true_and, and_false, false_and, or_true, true_or, or_false, false_or, Int32.add_zero]; done) | (simp only [lightF, eq_false h1, eq_false h2, if_true, if_true, if_false, not_true_eq_false, not_false_eq_true, and_true, true_and, and_false, false_and, or_true, true_or, or_false, false_or, Int32.add_zero]; rfl) | rfl) (by first | (simp only [lightF, eq_false h1, eq_false h2, if_true, if_true, if_false, not_true_eq_false, not_false_eq_true, and_true, true_and, and_false, false_and, or_true, true_or, or_false, false_or, Int32.add_zero]; done) | (simp only [lightF, eq_false h1, eq_false h2, if_true, if_true, if_false, not_true_eq_false, not_false_eq_true, and_true, true_and, and_false, false_and, or_true, true_or, or_false, false_or, Int32.add_zero]; rfl) | rfl)
theorem mq_lighten (hm : isMd μ m) (e0 : mdG (ps_i μ) m 0 = σ0) (hs : sameF τ σ0) (hI : shI g σ0) (a : Int32) {c : Nat} (hc : c ≤ 9) (ec : σ0 2 = nI c) : evI (ps_XX L xs) (d + 7) j_X8_lighten [.ref m, .int a] (MS μ m 1832 τ) (if ¬ actP a then (-1, MS μ m 1832 τ) else if σ0 8 = 0 then (-4, MS μ m 1832 τ) else ((lightF g a σ0 (c + 1) 0 τ).1, MS μ m 1832 (lightF g a σ0 (c + 1) 0 τ).2)) := by
  refine ⟨Nat.le_of_ble_eq_true rfl, ?_⟩
  refine e_2 rfl rfl ?_
  refine e_s1 rfl rfl rfl (Nat.le_of_ble_eq_true rfl) (sm_isAct _) ?_
  refine e_31b rfl (fun h1 => ?_) (fun h1 => ?_)
  · refine e_4 rfl rfl ?_
    refine m_gangs (by exact hm) rfl rfl ?_
    rw [hs 8 (by omega) (by omega)]
    refine e_31 rfl (fun h2 => ?_) (fun h2 => ?_)
    · refine e_0 rfl ?_
      refine e_5 rfl rfl ?_
      simp only [eq_true h1, eq_false h2, if_true, if_true, if_false, not_true_eq_false, not_false_eq_true, and_true, true_and, and_false, false_and, or_true, true_or, or_false, false_or, reduceIte]
      exact mt_light_loop (L := L) (xs := xs) (d := d + 1) hm e0 hI a hc ec (c + 1) 0 τ (by omega) hs
    · refine e_0 rfl ?_
      exact e_ri rfl rfl (by first | (simp only [eq_true h1, eq_true h2, if_true, if_true, if_false, not_true_eq_false, not_false_eq_true, and_true, true_and, and_false, false_and, or_true, true_or, or_false, false_or, reduceIte]; done) | (simp only [eq_true h1, eq_true h2, if_true, if_true, if_false, not_true_eq_false, not_false_eq_true, and_true, true_and, and_false, false_and, or_true, true_or, or_false, false_or, reduceIte]; rfl) | rfl) (by first | (simp only [eq_true h1, eq_true h2, if_true, if_true, if_false, not_true_eq_false, not_false_eq_true, and_true, true_and, and_false, false_and, or_true, true_or, or_false, false_or, reduceIte]; done) | (simp only [eq_true h1, eq_true h2, if_true, if_true, if_false, not_true_eq_false, not_false_eq_true, and_true, true_and, and_false, false_and, or_true, true_or, or_false, false_or, reduceIte]; rfl) | rfl)
  · refine e_0 rfl ?_
    exact e_ri rfl rfl (by first | (simp only [eq_false h1, if_true, if_true, if_false, not_true_eq_false, not_false_eq_true, and_true, true_and, and_false, false_and, or_true, true_or, or_false, false_or, reduceIte]; done) | (simp only [eq_false h1, if_true, if_true, if_false, not_true_eq_false, not_false_eq_true, and_true, true_and, and_false, false_and, or_true, true_or, or_false, false_or, reduceIte]; rfl) | rfl) (by first | (simp only [eq_false h1, if_true, if_true, if_false, not_true_eq_false, not_false_eq_true, and_true, true_and, and_false, false_and, or_true, true_or, or_false, false_or, reduceIte]; done) | (simp only [eq_false h1, if_true, if_true, if_false, not_true_eq_false, not_false_eq_true, and_true, true_and, and_false, false_and, or_true, true_or, or_false, false_or, reduceIte]; rfl) | rfl)
end MQ9
