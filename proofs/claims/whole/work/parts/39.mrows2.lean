-- ===== rows and texts of the model: copies, means, places =====
section MQ3
variable {L : Nat} {xs : Nat → Int32} {d : Nat} {μ : ps_M} {m : Nat}
theorem mq_copy (hm : isMd μ m) {r : Int32} {k : Nat} (hr : rowP r → r = nI k ∧ k < 6) {to : Int32} {t : Nat} (hr2 : rowP to → to = nI t ∧ t < 6) {i j n : Int32} {a b N : Nat} (hs : 0 ≤ n → spanP i n (ps_i μ (m + 3) k) → spanP j n (ps_i μ (m + 3) t) → n = nI N ∧ i = nI a ∧ j = nI b ∧ a + N ≤ 40 ∧ b + N ≤ 40) : evI (ps_XX L xs) (d + 3) j_X8_copy [.ref m, .int r, .int i, .int to, .int j, .int n] (μ) (if ¬ rowP r ∨ ¬ rowP to then (-1, μ) else if ¬ 0 ≤ n then (-3, FM μ m 5) else if ps_i μ (m + 3) k < 0 ∨ ¬ 0 ≤ ps_i μ (m + 3) t then (-3, FM μ m 1) else if ¬ spanP i n (ps_i μ (m + 3) k) ∨ ¬ spanP j n (ps_i μ (m + 3) t) then (-3, FM μ m 2) else (1, ps_wI μ (cpR (ps_i μ) (m + 4) (40 * k + a) (40 * t + b) N))) := by
  refine ⟨Nat.le_of_ble_eq_true rfl, ?_⟩
  refine e_2 rfl rfl ?_
  refine e_s1 rfl rfl rfl (Nat.le_of_ble_eq_true rfl) (sm_isRow _) ?_
  refine e_30b rfl (fun h1 => ?_) (fun h1 => ?_)
  · refine e_0 rfl ?_
    exact e_ri rfl rfl (by first | (simp only [eq_false h1, if_true, if_true, if_false, not_true_eq_false, not_false_eq_true, and_true, true_and, and_false, false_and, or_true, true_or, or_false, false_or, reduceIte]; done) | (simp only [eq_false h1, if_true, if_true, if_false, not_true_eq_false, not_false_eq_true, and_true, true_and, and_false, false_and, or_true, true_or, or_false, false_or, reduceIte]; rfl) | rfl) (by first | (simp only [eq_false h1, if_true, if_true, if_false, not_true_eq_false, not_false_eq_true, and_true, true_and, and_false, false_and, or_true, true_or, or_false, false_or, reduceIte]; done) | (simp only [eq_false h1, if_true, if_true, if_false, not_true_eq_false, not_false_eq_true, and_true, true_and, and_false, false_and, or_true, true_or, or_false, false_or, reduceIte]; rfl) | rfl)
  · refine e_2 rfl rfl ?_
    refine e_s1 rfl rfl rfl (Nat.le_of_ble_eq_true rfl) (sm_isRow _) ?_
    refine e_31b rfl (fun h2 => ?_) (fun h2 => ?_)
    · obtain ⟨rfl, hk⟩ := hr h1
      obtain ⟨rfl, ht⟩ := hr2 h2
      refine e_2 rfl rfl ?_
      refine e_33 rfl (fun h3 => ?_) (fun h3 => ?_)
      · refine e_4 rfl rfl ?_
        refine e_gr rfl hm.1 rfl hm.2.2.2.2.2.2.2.2.2.2.2.1 ?_
        refine e_2 rfl rfl ?_
        refine e_48q (i := k) rfl hm.2.2.2.1 (by first | rfl | (simp only [← nI_add, ← pk_mul]; rfl) | (simp only [nI_add, pk_mul, nI_1]; done)) (by omega) (by decide) ?_
        refine e_32 rfl (fun h4 => ?_) (fun h4 => ?_)
        · refine e_4 rfl rfl ?_
          refine e_0 rfl ?_
          refine e_v1 rfl (by first | exact hm.1 | assumption | rfl) rfl (by decide) rfl (Nat.le_of_ble_eq_true rfl) (evo (mq_find (by exact hm) (by decide))) ?_
          exact e_ri rfl rfl (by first | (simp only [eq_true h1, eq_true h2, eq_true h3, eq_true h4, if_true, if_true, if_false, not_true_eq_false, not_false_eq_true, and_true, true_and, and_false, false_and, or_true, true_or, or_false, false_or, reduceIte]; done) | (simp only [eq_true h1, eq_true h2, eq_true h3, eq_true h4, if_true, if_true, if_false, not_true_eq_false, not_false_eq_true, and_true, true_and, and_false, false_and, or_true, true_or, or_false, false_or, reduceIte]; rfl) | rfl) (by first | (simp only [eq_true h1, eq_true h2, eq_true h3, eq_true h4, if_true, if_true, if_false, not_true_eq_false, not_false_eq_true, and_true, true_and, and_false, false_and, or_true, true_or, or_false, false_or, reduceIte]; done) | (simp only [eq_true h1, eq_true h2, eq_true h3, eq_true h4, if_true, if_true, if_false, not_true_eq_false, not_false_eq_true, and_true, true_and, and_false, false_and, or_true, true_or, or_false, false_or, reduceIte]; rfl) | rfl)
        · refine e_4 rfl rfl ?_
          refine e_gr rfl hm.1 rfl hm.2.2.2.2.2.2.2.2.2.2.2.1 ?_
          refine e_2 rfl rfl ?_
          refine e_48q (i := t) rfl hm.2.2.2.1 (by first | rfl | (simp only [← nI_add, ← pk_mul]; rfl) | (simp only [nI_add, pk_mul, nI_1]; done)) (by omega) (by decide) ?_
          refine e_33 rfl (fun h5 => ?_) (fun h5 => ?_)
          · refine e_4 rfl rfl ?_
            refine e_2 rfl rfl ?_
            refine e_2 rfl rfl ?_
            refine e_2 rfl rfl ?_
            refine e_v3 rfl (by first | exact hm.1 | assumption | rfl) rfl (by decide) rfl (Nat.le_of_ble_eq_true rfl) (mq_isSpan hm (by assumption) _ _) ?_
            refine e_30b rfl (fun h6 => ?_) (fun h6 => ?_)
            · refine e_4 rfl rfl ?_
              refine e_0 rfl ?_
              refine e_v1 rfl (by first | exact hm.1 | assumption | rfl) rfl (by decide) rfl (Nat.le_of_ble_eq_true rfl) (evo (mq_find (by exact hm) (by decide))) ?_
              exact e_ri rfl rfl (by first | (simp only [eq_true h1, eq_true h2, eq_true h3, eq_false h4, eq_true h5, eq_false h6, if_true, if_true, if_false, not_true_eq_false, not_false_eq_true, and_true, true_and, and_false, false_and, or_true, true_or, or_false, false_or, reduceIte]; done) | (simp only [eq_true h1, eq_true h2, eq_true h3, eq_false h4, eq_true h5, eq_false h6, if_true, if_true, if_false, not_true_eq_false, not_false_eq_true, and_true, true_and, and_false, false_and, or_true, true_or, or_false, false_or, reduceIte]; rfl) | rfl) (by first | (simp only [eq_true h1, eq_true h2, eq_true h3, eq_false h4, eq_true h5, eq_false h6, if_true, if_true, if_false, not_true_eq_false, not_false_eq_true, and_true, true_and, and_false, false_and, or_true, true_or, or_false, false_or, reduceIte]; done) | (simp only [eq_true h1, eq_true h2, eq_true h3, eq_false h4, eq_true h5, eq_false h6, if_true, if_true, if_false, not_true_eq_false, not_false_eq_true, and_true, true_and, and_false, false_and, or_true, true_or, or_false, false_or, reduceIte]; rfl) | rfl)
            · refine e_4 rfl rfl ?_
              refine e_2 rfl rfl ?_
              refine e_2 rfl rfl ?_
              refine e_2 rfl rfl ?_
              refine e_v3 rfl (by first | exact hm.1 | assumption | rfl) rfl (by decide) rfl (Nat.le_of_ble_eq_true rfl) (mq_isSpan hm (by assumption) _ _) ?_
              refine e_31b rfl (fun h7 => ?_) (fun h7 => ?_)
              · obtain ⟨rfl, rfl, rfl, ha, hb⟩ := hs h3 h6 h7
                refine e_2 rfl rfl ?_
                refine e_2 rfl rfl ?_
                refine e_39 rfl (fun h8 => ?_) (fun h8 => ?_)
                · refine e_0 rfl ?_
                  refine e_5 rfl rfl ?_
                  refine e_0 rfl ?_
                  refine e_5 rfl rfl ?_
                  simp only [eq_true h1, eq_true h2, eq_true h3, eq_false h4, eq_true h5, eq_true h6, eq_true h7, eq_true h8, if_true, if_true, if_false, not_true_eq_false, not_false_eq_true, and_true, true_and, and_false, false_and, or_true, true_or, or_false, false_or, reduceIte]
                  have hba := (nI_leI (by omega) (by omega)).mp h8
                  have h := mq_copy_f (L := L) (xs := xs) (d := d + 2) hm hk ht ha hb (by omega) N 0 (by omega)
                  rw [cpR_0] at h
                  exact h
                · refine e_0 rfl ?_
                  refine e_42 rfl ?_
                  refine e_5 rfl rfl ?_
                  refine e_0 rfl ?_
                  refine e_5 rfl rfl ?_
                  simp only [eq_true h1, eq_true h2, eq_true h3, eq_false h4, eq_true h5, eq_true h6, eq_true h7, eq_false h8, if_true, if_true, if_false, not_true_eq_false, not_false_eq_true, and_true, true_and, and_false, false_and, or_true, true_or, or_false, false_or, reduceIte]
                  have hba := Nat.not_le.mp (fun z => h8 ((nI_leI (by omega) (by omega)).mpr z))
                  have h := mq_copy_b (L := L) (xs := xs) (d := d + 2) hm hk ht ha hb (by omega) N 0 (by omega)
                  rw [cpR_0] at h
                  exact h
              · refine e_4 rfl rfl ?_
                refine e_0 rfl ?_
                refine e_v1 rfl (by first | exact hm.1 | assumption | rfl) rfl (by decide) rfl (Nat.le_of_ble_eq_true rfl) (evo (mq_find (by exact hm) (by decide))) ?_
                exact e_ri rfl rfl (by first | (simp only [eq_true h1, eq_true h2, eq_true h3, eq_false h4, eq_true h5, eq_true h6, eq_false h7, if_true, if_true, if_false, not_true_eq_false, not_false_eq_true, and_true, true_and, and_false, false_and, or_true, true_or, or_false, false_or, reduceIte]; done) | (simp only [eq_true h1, eq_true h2, eq_true h3, eq_false h4, eq_true h5, eq_true h6, eq_false h7, if_true, if_true, if_false, not_true_eq_false, not_false_eq_true, and_true, true_and, and_false, false_and, or_true, true_or, or_false, false_or, reduceIte]; rfl) | rfl) (by first | (simp only [eq_true h1, eq_true h2, eq_true h3, eq_false h4, eq_true h5, eq_true h6, eq_false h7, if_true, if_true, if_false, not_true_eq_false, not_false_eq_true, and_true, true_and, and_false, false_and, or_true, true_or, or_false, false_or, reduceIte]; done) | (simp only [eq_true h1, eq_true h2, eq_true h3, eq_false h4, eq_true h5, eq_true h6, eq_false h7, if_true, if_true, if_false, not_true_eq_false, not_false_eq_true, and_true, true_and, and_false, false_and, or_true, true_or, or_false, false_or, reduceIte]; rfl) | rfl)
          · refine e_4 rfl rfl ?_
            refine e_0 rfl ?_
            refine e_v1 rfl (by first | exact hm.1 | assumption | rfl) rfl (by decide) rfl (Nat.le_of_ble_eq_true rfl) (evo (mq_find (by exact hm) (by decide))) ?_
            exact e_ri rfl rfl (by first | (simp only [eq_true h1, eq_true h2, eq_true h3, eq_false h4, eq_false h5, if_true, if_true, if_false, not_true_eq_false, not_false_eq_true, and_true, true_and, and_false, false_and, or_true, true_or, or_false, false_or, reduceIte]; done) | (simp only [eq_true h1, eq_true h2, eq_true h3, eq_false h4, eq_false h5, if_true, if_true, if_false, not_true_eq_false, not_false_eq_true, and_true, true_and, and_false, false_and, or_true, true_or, or_false, false_or, reduceIte]; rfl) | rfl) (by first | (simp only [eq_true h1, eq_true h2, eq_true h3, eq_false h4, eq_false h5, if_true, if_true, if_false, not_true_eq_false, not_false_eq_true, and_true, true_and, and_false, false_and, or_true, true_or, or_false, false_or, reduceIte]; done) | (simp only [eq_true h1, eq_true h2, eq_true h3, eq_false h4, eq_false h5, if_true, if_true, if_false, not_true_eq_false, not_false_eq_true, and_true, true_and, and_false, false_and, or_true, true_or, or_false, false_or, reduceIte]; rfl) | rfl)
      · refine e_4 rfl rfl ?_
        refine e_0 rfl ?_
        refine e_v1 rfl (by first | exact hm.1 | assumption | rfl) rfl (by decide) rfl (Nat.le_of_ble_eq_true rfl) (evo (mq_find (by exact hm) (by decide))) ?_
        exact e_ri rfl rfl (by first | (simp only [eq_true h1, eq_true h2, eq_false h3, if_true, if_true, if_false, not_true_eq_false, not_false_eq_true, and_true, true_and, and_false, false_and, or_true, true_or, or_false, false_or, reduceIte]; done) | (simp only [eq_true h1, eq_true h2, eq_false h3, if_true, if_true, if_false, not_true_eq_false, not_false_eq_true, and_true, true_and, and_false, false_and, or_true, true_or, or_false, false_or, reduceIte]; rfl) | rfl) (by first | (simp only [eq_true h1, eq_true h2, eq_false h3, if_true, if_true, if_false, not_true_eq_false, not_false_eq_true, and_true, true_and, and_false, false_and, or_true, true_or, or_false, false_or, reduceIte]; done) | (simp only [eq_true h1, eq_true h2, eq_false h3, if_true, if_true, if_false, not_true_eq_false, not_false_eq_true, and_true, true_and, and_false, false_and, or_true, true_or, or_false, false_or, reduceIte]; rfl) | rfl)
    · refine e_0 rfl ?_
      exact e_ri rfl rfl (by first | (simp only [eq_true h1, eq_false h2, if_true, if_true, if_false, not_true_eq_false, not_false_eq_true, and_true, true_and, and_false, false_and, or_true, true_or, or_false, false_or, reduceIte]; done) | (simp only [eq_true h1, eq_false h2, if_true, if_true, if_false, not_true_eq_false, not_false_eq_true, and_true, true_and, and_false, false_and, or_true, true_or, or_false, false_or, reduceIte]; rfl) | rfl) (by first | (simp only [eq_true h1, eq_false h2, if_true, if_true, if_false, not_true_eq_false, not_false_eq_true, and_true, true_and, and_false, false_and, or_true, true_or, or_false, false_or, reduceIte]; done) | (simp only [eq_true h1, eq_false h2, if_true, if_true, if_false, not_true_eq_false, not_false_eq_true, and_true, true_and, and_false, false_and, or_true, true_or, or_false, false_or, reduceIte]; rfl) | rfl)
theorem mq_mean_loop (hm : isMd μ m) {k S : Nat} (hk : k < 6) (eS : ps_i μ (m + 3) k = nI S) (hS40 : S ≤ 40) (hS0 : 0 < S) : ∀ (n i : Nat), i + n = S → ps_To (ps_XX L xs) (ps_Ev (ps_XX L xs) (d + 1)) j_X8_mean (ps_rt j_X8_mean (some (.int 1)) (ps_sI μ m 9 (lsum (fun x => ps_i μ (m + 4) (40 * k + x)) S / (nI S).toInt64).toInt32)) (44, [(4, .int (nI i)), (2, .long (lsum (fun x => ps_i μ (m + 4) (40 * k + x)) i)), (0, .ref (m)), (1, .int (nI k))], [], μ) := by
  intro n
  induction n with
  | zero =>
    intro i hi
    obtain rfl : i = S := by omega
    refine e_2 rfl rfl ?_
    refine e_4 rfl rfl ?_
    refine e_gr rfl hm.1 rfl hm.2.2.2.2.2.2.2.2.2.2.2.1 ?_
    refine e_2 rfl rfl ?_
    refine e_48q (i := k) rfl hm.2.2.2.1 (by first | rfl | (simp only [← nI_add, ← pk_mul]; rfl) | (simp only [nI_add, pk_mul, nI_1]; done)) (by omega) (by decide) ?_
    rw [eS]
    refine e_39 rfl (fun h1 => ?_) (fun h1 => ?_)
    · refine e_4 rfl rfl ?_
      refine e_3 rfl rfl ?_
      refine e_4 rfl rfl ?_
      refine e_gr rfl hm.1 rfl hm.2.2.2.2.2.2.2.2.2.2.2.1 ?_
      refine e_2 rfl rfl ?_
      refine e_48q (i := k) rfl hm.2.2.2.1 (by first | rfl | (simp only [← nI_add, ← pk_mul]; rfl) | (simp only [nI_add, pk_mul, nI_1]; done)) (by omega) (by decide) ?_
      rw [eS]
      refine e_25 rfl ?_
      refine e_22 rfl (fun z => by rw [nI_l (by omega)] at z; exact absurd ((lN_eq (b := 0) (by omega) (by decide)).mp z) (by omega)) ?_
      refine e_26 rfl ?_
      refine e_v1 rfl (by first | exact hm.1 | assumption | rfl) rfl (by decide) rfl (Nat.le_of_ble_eq_true rfl) (evo (mq_told hm _)) ?_
      exact e_ri rfl rfl (by rfl) (rfl)
    · exact absurd (nI_le (Nat.le_refl _) (by omega)) h1
  | succ n ih =>
    intro i hi
    refine e_2 rfl rfl ?_
    refine e_4 rfl rfl ?_
    refine e_gr rfl hm.1 rfl hm.2.2.2.2.2.2.2.2.2.2.2.1 ?_
    refine e_2 rfl rfl ?_
    refine e_48q (i := k) rfl hm.2.2.2.1 (by first | rfl | (simp only [← nI_add, ← pk_mul]; rfl) | (simp only [nI_add, pk_mul, nI_1]; done)) (by omega) (by decide) ?_
    rw [eS]
    refine e_39 rfl (fun h1 => ?_) (fun h1 => ?_)
    · exact absurd h1 (nI_ge (by omega) (by omega))
    · refine e_3 rfl rfl ?_
      refine e_4 rfl rfl ?_
      refine e_gr rfl hm.1 rfl hm.2.2.2.2.2.2.2.2.2.2.2.2.1 ?_
      refine e_0 rfl ?_
      refine e_2 rfl rfl ?_
      refine e_11 rfl ?_
      refine e_2 rfl rfl ?_
      refine e_9 rfl ?_
      refine e_48q (i := ((40 * k) + i)) rfl hm.2.2.2.2.1 (by first | rfl | (simp only [← nI_add, ← pk_mul]; rfl) | (simp only [nI_add, pk_mul, nI_1]; done)) (by omega) (by decide) ?_
      refine e_25 rfl ?_
      refine e_19 rfl ?_
      refine e_6 rfl rfl ?_
      refine e_8 rfl rfl rfl ?_
      refine e_42 rfl ?_
      refine e_lv [0, 1, 2, 3] rfl rfl ?_
      show ps_To _ _ _ _ (44, [(4, .int _), (2, .long _), (0, .ref _), (1, .int _)], [], _)
      rw [nI_1]
      exact ih (i + 1) (by omega)
theorem mq_mean (hm : isMd μ m) {r : Int32} {k : Nat} (hr : rowP r → r = nI k ∧ k < 6) {S : Nat} (hS : 0 ≤ ps_i μ (m + 3) k → ps_i μ (m + 3) k = nI S ∧ S ≤ 40) : evI (ps_XX L xs) (d + 3) j_X8_mean [.ref m, .int r] (μ) (if ¬ rowP r then (-1, μ) else if ¬ 0 ≤ ps_i μ (m + 3) k then (-3, FM μ m 1) else if ps_i μ (m + 3) k = 0 then (-3, FM μ m 4) else (1, ps_sI μ m 9 (lsum (fun x => ps_i μ (m + 4) (40 * k + x)) S / (nI S).toInt64).toInt32)) := by
  refine ⟨Nat.le_of_ble_eq_true rfl, ?_⟩
  refine e_2 rfl rfl ?_
  refine e_s1 rfl rfl rfl (Nat.le_of_ble_eq_true rfl) (sm_isRow _) ?_
  refine e_31b rfl (fun h1 => ?_) (fun h1 => ?_)
  · obtain ⟨rfl, hk⟩ := hr h1
    refine e_4 rfl rfl ?_
    refine e_gr rfl hm.1 rfl hm.2.2.2.2.2.2.2.2.2.2.2.1 ?_
    refine e_2 rfl rfl ?_
    refine e_48q (i := k) rfl hm.2.2.2.1 (by first | rfl | (simp only [← nI_add, ← pk_mul]; rfl) | (simp only [nI_add, pk_mul, nI_1]; done)) (by omega) (by decide) ?_
    refine e_33 rfl (fun h2 => ?_) (fun h2 => ?_)
    · obtain ⟨eS, hS40⟩ := hS h2
      rw [eS] at h2 ⊢
      refine e_4 rfl rfl ?_
      refine e_gr rfl hm.1 rfl hm.2.2.2.2.2.2.2.2.2.2.2.1 ?_
      refine e_2 rfl rfl ?_
      refine e_48q (i := k) rfl hm.2.2.2.1 (by first | rfl | (simp only [← nI_add, ← pk_mul]; rfl) | (simp only [nI_add, pk_mul, nI_1]; done)) (by omega) (by decide) ?_
      rw [eS]
      refine e_31 rfl (fun h3 => ?_) (fun h3 => ?_)
      · refine e_1 rfl ?_
        refine e_6 rfl rfl ?_
        refine e_0 rfl ?_
        refine e_5 rfl rfl ?_
        simp only [eq_true h1, eq_true h2, eq_false h3, if_true, if_true, if_false, not_true_eq_false, not_false_eq_true, and_true, true_and, and_false, false_and, or_true, true_or, or_false, false_or, reduceIte]
        exact mq_mean_loop (L := L) (xs := xs) (d := d + 1) hm hk eS hS40 (by rcases Nat.eq_zero_or_pos S with z | z; (· subst z; exact absurd rfl h3); exact z) S 0 (by omega)
      · refine e_4 rfl rfl ?_
        refine e_0 rfl ?_
        refine e_v1 rfl (by first | exact hm.1 | assumption | rfl) rfl (by decide) rfl (Nat.le_of_ble_eq_true rfl) (evo (mq_find (by exact hm) (by decide))) ?_
        exact e_ri rfl rfl (by first | (simp only [eq_true h1, eq_true h2, eq_true h3, if_true, if_true, if_false, not_true_eq_false, not_false_eq_true, and_true, true_and, and_false, false_and, or_true, true_or, or_false, false_or, reduceIte]; done) | (simp only [eq_true h1, eq_true h2, eq_true h3, if_true, if_true, if_false, not_true_eq_false, not_false_eq_true, and_true, true_and, and_false, false_and, or_true, true_or, or_false, false_or, reduceIte]; rfl) | rfl) (by first | (simp only [eq_true h1, eq_true h2, eq_true h3, if_true, if_true, if_false, not_true_eq_false, not_false_eq_true, and_true, true_and, and_false, false_and, or_true, true_or, or_false, false_or, reduceIte]; done) | (simp only [eq_true h1, eq_true h2, eq_true h3, if_true, if_true, if_false, not_true_eq_false, not_false_eq_true, and_true, true_and, and_false, false_and, or_true, true_or, or_false, false_or, reduceIte]; rfl) | rfl)
    · refine e_4 rfl rfl ?_
      refine e_0 rfl ?_
      refine e_v1 rfl (by first | exact hm.1 | assumption | rfl) rfl (by decide) rfl (Nat.le_of_ble_eq_true rfl) (evo (mq_find (by exact hm) (by decide))) ?_
      exact e_ri rfl rfl (by first | (simp only [eq_true h1, eq_false h2, if_true, if_true, if_false, not_true_eq_false, not_false_eq_true, and_true, true_and, and_false, false_and, or_true, true_or, or_false, false_or, reduceIte]; done) | (simp only [eq_true h1, eq_false h2, if_true, if_true, if_false, not_true_eq_false, not_false_eq_true, and_true, true_and, and_false, false_and, or_true, true_or, or_false, false_or, reduceIte]; rfl) | rfl) (by first | (simp only [eq_true h1, eq_false h2, if_true, if_true, if_false, not_true_eq_false, not_false_eq_true, and_true, true_and, and_false, false_and, or_true, true_or, or_false, false_or, reduceIte]; done) | (simp only [eq_true h1, eq_false h2, if_true, if_true, if_false, not_true_eq_false, not_false_eq_true, and_true, true_and, and_false, false_and, or_true, true_or, or_false, false_or, reduceIte]; rfl) | rfl)
  · refine e_0 rfl ?_
    exact e_ri rfl rfl (by first | (simp only [eq_false h1, if_true, if_true, if_false, not_true_eq_false, not_false_eq_true, and_true, true_and, and_false, false_and, or_true, true_or, or_false, false_or, reduceIte]; done) | (simp only [eq_false h1, if_true, if_true, if_false, not_true_eq_false, not_false_eq_true, and_true, true_and, and_false, false_and, or_true, true_or, or_false, false_or, reduceIte]; rfl) | rfl) (by first | (simp only [eq_false h1, if_true, if_true, if_false, not_true_eq_false, not_false_eq_true, and_true, true_and, and_false, false_and, or_true, true_or, or_false, false_or, reduceIte]; done) | (simp only [eq_false h1, if_true, if_true, if_false, not_true_eq_false, not_false_eq_true, and_true, true_and, and_false, false_and, or_true, true_or, or_false, false_or, reduceIte]; rfl) | rfl)
theorem mq_text_loop (hm : isMd μ m) {k : Nat} (hk : k < 4) (y : Int32) : ∀ (n i : Nat), i + n = 60 → ps_To (ps_XX L xs) (ps_Ev (ps_XX L xs) (d + 0)) j_X8_text (ps_rt j_X8_text (some (.int y)) (MT μ m k y)) (34, [(3, .int (nI i)), (0, .ref (m)), (1, .int (nI k)), (2, .int (y))], [], MTi μ m k y i) := by
  intro n
  induction n with
  | zero =>
    intro i hi
    obtain rfl : i = 60 := by omega
    refine e_2 rfl rfl ?_
    refine e_0 rfl ?_
    rw [show (60 : Int32) = nI 60 from rfl]
    refine e_39 rfl (fun h1 => ?_) (fun h1 => ?_)
    · refine e_2 rfl rfl ?_
      exact e_ri rfl rfl (by rfl) (rfl)
    · exact absurd (nI_le (Nat.le_refl _) (by omega)) h1
  | succ n ih =>
    intro i hi
    refine e_2 rfl rfl ?_
    refine e_0 rfl ?_
    rw [show (60 : Int32) = nI 60 from rfl]
    refine e_39 rfl (fun h1 => ?_) (fun h1 => ?_)
    · exact absurd h1 (nI_ge (by omega) (by omega))
    · refine e_4 rfl rfl ?_
      refine e_gr rfl hm.1 rfl hm.2.2.2.2.2.2.2.2.2.2.2.2.2.2.1 ?_
      refine e_0 rfl ?_
      refine e_2 rfl rfl ?_
      refine e_11 rfl ?_
      refine e_2 rfl rfl ?_
      refine e_9 rfl ?_
      refine e_0 rfl ?_
      refine e_49q (i := ((60 * k) + i)) rfl hm.2.2.2.2.2.2.1 (by first | rfl | (simp only [← nI_add, ← pk_mul]; rfl) | (simp only [nI_add, pk_mul, nI_1]; done)) (by omega) (by decide) ?_
      refine e_8 rfl rfl rfl ?_
      refine e_42 rfl ?_
      refine e_lv [0, 1, 2, 3] rfl rfl ?_
      show ps_To _ _ _ _ (34, [(3, .int _), (0, .ref _), (1, .int _), (2, .int _)], [], _)
      have h := ih (i + 1) (by omega)
      rw [← MTi_s] at h
      rw [nI_1]
      exact h
theorem mq_text (hm : isMd μ m) {r : Int32} {k : Nat} (hr : textP r → r = nI k ∧ k < 4) (n : Int32) : evI (ps_XX L xs) (d + 3) j_X8_text [.ref m, .int r, .int n] (μ) (if ¬ textP r ∨ ¬ n ≤ 60 then (-1, μ) else if ¬ 0 ≤ n then (-3, FM μ m 5) else (n, MT μ m k n)) := by
  refine ⟨Nat.le_of_ble_eq_true rfl, ?_⟩
  refine e_2 rfl rfl ?_
  refine e_s1 rfl rfl rfl (Nat.le_of_ble_eq_true rfl) (sm_isText r) ?_
  refine e_30b rfl (fun h1 => ?_) (fun h1 => ?_)
  · refine e_0 rfl ?_
    exact e_ri rfl rfl (by first | (simp only [eq_false h1, if_true, if_true, if_false, not_true_eq_false, not_false_eq_true, and_true, true_and, and_false, false_and, or_true, true_or, or_false, false_or, reduceIte]; done) | (simp only [eq_false h1, if_true, if_true, if_false, not_true_eq_false, not_false_eq_true, and_true, true_and, and_false, false_and, or_true, true_or, or_false, false_or, reduceIte]; rfl) | rfl) (by first | (simp only [eq_false h1, if_true, if_true, if_false, not_true_eq_false, not_false_eq_true, and_true, true_and, and_false, false_and, or_true, true_or, or_false, false_or, reduceIte]; done) | (simp only [eq_false h1, if_true, if_true, if_false, not_true_eq_false, not_false_eq_true, and_true, true_and, and_false, false_and, or_true, true_or, or_false, false_or, reduceIte]; rfl) | rfl)
  · refine e_2 rfl rfl ?_
    refine e_0 rfl ?_
    refine e_41 rfl (fun h2 => ?_) (fun h2 => ?_)
    · refine e_2 rfl rfl ?_
      refine e_33 rfl (fun h3 => ?_) (fun h3 => ?_)
      · obtain ⟨rfl, hk⟩ := hr h1
        refine e_4 rfl rfl ?_
        refine e_gr rfl hm.1 rfl hm.2.2.2.2.2.2.2.2.2.2.2.2.2.1 ?_
        refine e_2 rfl rfl ?_
        refine e_2 rfl rfl ?_
        refine e_49q (i := k) rfl hm.2.2.2.2.2.1 (by first | rfl | (simp only [← nI_add, ← pk_mul]; rfl) | (simp only [nI_add, pk_mul, nI_1]; done)) (by omega) (by decide) ?_
        refine e_0 rfl ?_
        refine e_5 rfl rfl ?_
        simp only [eq_true h1, eq_true h2, eq_true h3, if_true, if_true, if_false, not_true_eq_false, not_false_eq_true, and_true, true_and, and_false, false_and, or_true, true_or, or_false, false_or, reduceIte]
        have h := mq_text_loop (L := L) (xs := xs) (d := d + 2) hm hk n 60 0 (by omega)
        rw [← MTi_0] at h
        exact h
      · refine e_4 rfl rfl ?_
        refine e_0 rfl ?_
        refine e_v1 rfl (by first | exact hm.1 | assumption | rfl) rfl (by decide) rfl (Nat.le_of_ble_eq_true rfl) (evo (mq_find (by exact hm) (by decide))) ?_
        exact e_ri rfl rfl (by first | (simp only [eq_true h1, eq_true h2, eq_false h3, if_true, if_true, if_false, not_true_eq_false, not_false_eq_true, and_true, true_and, and_false, false_and, or_true, true_or, or_false, false_or, reduceIte]; done) | (simp only [eq_true h1, eq_true h2, eq_false h3, if_true, if_true, if_false, not_true_eq_false, not_false_eq_true, and_true, true_and, and_false, false_and, or_true, true_or, or_false, false_or, reduceIte]; rfl) | rfl) (by first | (simp only [eq_true h1, eq_true h2, eq_false h3, if_true, if_true, if_false, not_true_eq_false, not_false_eq_true, and_true, true_and, and_false, false_and, or_true, true_or, or_false, false_or, reduceIte]; done) | (simp only [eq_true h1, eq_true h2, eq_false h3, if_true, if_true, if_false, not_true_eq_false, not_false_eq_true, and_true, true_and, and_false, false_and, or_true, true_or, or_false, false_or, reduceIte]; rfl) | rfl)
    · refine e_0 rfl ?_
      exact e_ri rfl rfl (by first | (simp only [eq_true h1, eq_false h2, if_true, if_true, if_false, not_true_eq_false, not_false_eq_true, and_true, true_and, and_false, false_and, or_true, true_or, or_false, false_or, reduceIte]; done) | (simp only [eq_true h1, eq_false h2, if_true, if_true, if_false, not_true_eq_false, not_false_eq_true, and_true, true_and, and_false, false_and, or_true, true_or, or_false, false_or, reduceIte]; rfl) | rfl) (by first | (simp only [eq_true h1, eq_false h2, if_true, if_true, if_false, not_true_eq_false, not_false_eq_true, and_true, true_and, and_false, false_and, or_true, true_or, or_false, false_or, reduceIte]; done) | (simp only [eq_true h1, eq_false h2, if_true, if_true, if_false, not_true_eq_false, not_false_eq_true, and_true, true_and, and_false, false_and, or_true, true_or, or_false, false_or, reduceIte]; rfl) | rfl)
theorem mq_put (hm : isMd μ m) {r : Int32} {k : Nat} (hr : textP r → r = nI k ∧ k < 4) {i : Int32} {i' : Nat} (hi : 0 ≤ i ∧ i ≤ ps_i μ (m + 5) k - 1 → i = nI i' ∧ i' < 60) (v : Int32) : evI (ps_XX L xs) (d + 3) j_X8_put [.ref m, .int r, .int i, .int v] (μ) (if ¬ textP r then (-1, μ) else if ¬ 0 ≤ ps_i μ (m + 5) k then (-3, FM μ m 1) else if ¬ (0 ≤ i ∧ i ≤ ps_i μ (m + 5) k - 1) then (-3, FM μ m 2) else (ps_i μ (m + 6) (60 * k + i') + 1000, ps_sI μ (m + 6) (60 * k + i') v.toInt8.toInt32)) := by
  refine ⟨Nat.le_of_ble_eq_true rfl, ?_⟩
  refine e_2 rfl rfl ?_
  refine e_s1 rfl rfl rfl (Nat.le_of_ble_eq_true rfl) (sm_isText r) ?_
  refine e_31b rfl (fun h1 => ?_) (fun h1 => ?_)
  · obtain ⟨rfl, hk⟩ := hr h1
    refine e_4 rfl rfl ?_
    refine e_gr rfl hm.1 rfl hm.2.2.2.2.2.2.2.2.2.2.2.2.2.1 ?_
    refine e_2 rfl rfl ?_
    refine e_48q (i := k) rfl hm.2.2.2.2.2.1 (by first | rfl | (simp only [← nI_add, ← pk_mul]; rfl) | (simp only [nI_add, pk_mul, nI_1]; done)) (by omega) (by decide) ?_
    refine e_33 rfl (fun h2 => ?_) (fun h2 => ?_)
    · refine e_2 rfl rfl ?_
      refine e_25 rfl ?_
      refine e_1 rfl ?_
      refine e_4 rfl rfl ?_
      refine e_gr rfl hm.1 rfl hm.2.2.2.2.2.2.2.2.2.2.2.2.2.1 ?_
      refine e_2 rfl rfl ?_
      refine e_48q (i := k) rfl hm.2.2.2.2.2.1 (by first | rfl | (simp only [← nI_add, ← pk_mul]; rfl) | (simp only [nI_add, pk_mul, nI_1]; done)) (by omega) (by decide) ?_
      refine e_0 rfl ?_
      refine e_10 rfl ?_
      refine e_25 rfl ?_
      refine e_s3 rfl rfl rfl (Nat.le_of_ble_eq_true rfl) (sm_in i 0 (ps_i μ (m + 5) k - 1) (by decide) rfl) ?_
      refine e_31b rfl (fun h3 => ?_) (fun h3 => ?_)
      · obtain ⟨rfl, hi60⟩ := hi h3
        refine e_4 rfl rfl ?_
        refine e_gr rfl hm.1 rfl hm.2.2.2.2.2.2.2.2.2.2.2.2.2.2.1 ?_
        refine e_0 rfl ?_
        refine e_2 rfl rfl ?_
        refine e_11 rfl ?_
        refine e_2 rfl rfl ?_
        refine e_9 rfl ?_
        refine e_48q (i := ((60 * k) + i')) rfl hm.2.2.2.2.2.2.1 (by first | rfl | (simp only [← nI_add, ← pk_mul]; rfl) | (simp only [nI_add, pk_mul, nI_1]; done)) (by omega) (by decide) ?_
        refine e_5 rfl rfl ?_
        refine e_4 rfl rfl ?_
        refine e_gr rfl hm.1 rfl hm.2.2.2.2.2.2.2.2.2.2.2.2.2.2.1 ?_
        refine e_0 rfl ?_
        refine e_2 rfl rfl ?_
        refine e_11 rfl ?_
        refine e_2 rfl rfl ?_
        refine e_9 rfl ?_
        refine e_2 rfl rfl ?_
        refine e_27 rfl ?_
        refine e_49q (i := ((60 * k) + i')) rfl hm.2.2.2.2.2.2.1 (by first | rfl | (simp only [← nI_add, ← pk_mul]; rfl) | (simp only [nI_add, pk_mul, nI_1]; done)) (by omega) (by decide) ?_
        refine e_2 rfl rfl ?_
        refine e_0 rfl ?_
        refine e_9 rfl ?_
        exact e_ri rfl rfl (by first | (simp only [eq_true h1, eq_true h2, eq_true h3, if_true, if_true, if_false, not_true_eq_false, not_false_eq_true, and_true, true_and, and_false, false_and, or_true, true_or, or_false, false_or, reduceIte]; done) | (simp only [eq_true h1, eq_true h2, eq_true h3, if_true, if_true, if_false, not_true_eq_false, not_false_eq_true, and_true, true_and, and_false, false_and, or_true, true_or, or_false, false_or, reduceIte]; rfl) | rfl) (by first | (simp only [eq_true h1, eq_true h2, eq_true h3, if_true, if_true, if_false, not_true_eq_false, not_false_eq_true, and_true, true_and, and_false, false_and, or_true, true_or, or_false, false_or, reduceIte]; done) | (simp only [eq_true h1, eq_true h2, eq_true h3, if_true, if_true, if_false, not_true_eq_false, not_false_eq_true, and_true, true_and, and_false, false_and, or_true, true_or, or_false, false_or, reduceIte]; rfl) | rfl)
      · refine e_4 rfl rfl ?_
        refine e_0 rfl ?_
        refine e_v1 rfl (by first | exact hm.1 | assumption | rfl) rfl (by decide) rfl (Nat.le_of_ble_eq_true rfl) (evo (mq_find (by exact hm) (by decide))) ?_
        exact e_ri rfl rfl (by first | (simp only [eq_true h1, eq_true h2, eq_false h3, if_true, if_true, if_false, not_true_eq_false, not_false_eq_true, and_true, true_and, and_false, false_and, or_true, true_or, or_false, false_or, reduceIte]; done) | (simp only [eq_true h1, eq_true h2, eq_false h3, if_true, if_true, if_false, not_true_eq_false, not_false_eq_true, and_true, true_and, and_false, false_and, or_true, true_or, or_false, false_or, reduceIte]; rfl) | rfl) (by first | (simp only [eq_true h1, eq_true h2, eq_false h3, if_true, if_true, if_false, not_true_eq_false, not_false_eq_true, and_true, true_and, and_false, false_and, or_true, true_or, or_false, false_or, reduceIte]; done) | (simp only [eq_true h1, eq_true h2, eq_false h3, if_true, if_true, if_false, not_true_eq_false, not_false_eq_true, and_true, true_and, and_false, false_and, or_true, true_or, or_false, false_or, reduceIte]; rfl) | rfl)
    · refine e_4 rfl rfl ?_
      refine e_0 rfl ?_
      refine e_v1 rfl (by first | exact hm.1 | assumption | rfl) rfl (by decide) rfl (Nat.le_of_ble_eq_true rfl) (evo (mq_find (by exact hm) (by decide))) ?_
      exact e_ri rfl rfl (by first | (simp only [eq_true h1, eq_false h2, if_true, if_true, if_false, not_true_eq_false, not_false_eq_true, and_true, true_and, and_false, false_and, or_true, true_or, or_false, false_or, reduceIte]; done) | (simp only [eq_true h1, eq_false h2, if_true, if_true, if_false, not_true_eq_false, not_false_eq_true, and_true, true_and, and_false, false_and, or_true, true_or, or_false, false_or, reduceIte]; rfl) | rfl) (by first | (simp only [eq_true h1, eq_false h2, if_true, if_true, if_false, not_true_eq_false, not_false_eq_true, and_true, true_and, and_false, false_and, or_true, true_or, or_false, false_or, reduceIte]; done) | (simp only [eq_true h1, eq_false h2, if_true, if_true, if_false, not_true_eq_false, not_false_eq_true, and_true, true_and, and_false, false_and, or_true, true_or, or_false, false_or, reduceIte]; rfl) | rfl)
  · refine e_0 rfl ?_
    exact e_ri rfl rfl (by first | (simp only [eq_false h1, if_true, if_true, if_false, not_true_eq_false, not_false_eq_true, and_true, true_and, and_false, false_and, or_true, true_or, or_false, false_or, reduceIte]; done) | (simp only [eq_false h1, if_true, if_true, if_false, not_true_eq_false, not_false_eq_true, and_true, true_and, and_false, false_and, or_true, true_or, or_false, false_or, reduceIte]; rfl) | rfl) (by first | (simp only [eq_false h1, if_true, if_true, if_false, not_true_eq_false, not_false_eq_true, and_true, true_and, and_false, false_and, or_true, true_or, or_false, false_or, reduceIte]; done) | (simp only [eq_false h1, if_true, if_true, if_false, not_true_eq_false, not_false_eq_true, and_true, true_and, and_false, false_and, or_true, true_or, or_false, false_or, reduceIte]; rfl) | rfl)
theorem mq_gains (hm : isMd μ m) {r : Int32} {k : Nat} (hr : rowP r → r = nI k ∧ k < 6) {S : Nat} (hS : 0 ≤ ps_i μ (m + 3) k → ps_i μ (m + 3) k = nI S ∧ S ≤ 40) : evI (ps_XX L xs) (d + 3) j_X8_gains [.ref m, .int r] (μ) (if ¬ rowP r then (-1, μ) else if ¬ 0 ≤ ps_i μ (m + 3) k then (-3, FM μ m 1) else if ¬ 2 ≤ ps_i μ (m + 3) k then (-3, FM μ m 5) else if lg_cmp ((ps_i μ (m + 4) (40 * k + S - 1)).toInt64 - (ps_i μ (m + 4) (40 * k)).toInt64) 2 ≤ 0 then (if 0 ≤ lg_cmp ((ps_i μ (m + 4) (40 * k + S - 1)).toInt64 - (ps_i μ (m + 4) (40 * k)).toInt64) (-2) then (0, μ) else (2, μ)) else (1, μ)) := by
  refine ⟨Nat.le_of_ble_eq_true rfl, ?_⟩
  refine e_2 rfl rfl ?_
  refine e_s1 rfl rfl rfl (Nat.le_of_ble_eq_true rfl) (sm_isRow _) ?_
  refine e_31b rfl (fun h1 => ?_) (fun h1 => ?_)
  · obtain ⟨rfl, hk⟩ := hr h1
    refine e_4 rfl rfl ?_
    refine e_gr rfl hm.1 rfl hm.2.2.2.2.2.2.2.2.2.2.2.1 ?_
    refine e_2 rfl rfl ?_
    refine e_48q (i := k) rfl hm.2.2.2.1 (by first | rfl | (simp only [← nI_add, ← pk_mul]; rfl) | (simp only [nI_add, pk_mul, nI_1]; done)) (by omega) (by decide) ?_
    refine e_33 rfl (fun h2 => ?_) (fun h2 => ?_)
    · obtain ⟨eS, hS40⟩ := hS h2
      rw [eS] at h2 ⊢
      refine e_4 rfl rfl ?_
      refine e_gr rfl hm.1 rfl hm.2.2.2.2.2.2.2.2.2.2.2.1 ?_
      refine e_2 rfl rfl ?_
      refine e_48q (i := k) rfl hm.2.2.2.1 (by first | rfl | (simp only [← nI_add, ← pk_mul]; rfl) | (simp only [nI_add, pk_mul, nI_1]; done)) (by omega) (by decide) ?_
      rw [eS]
      refine e_0 rfl ?_
      refine e_39 rfl (fun h3 => ?_) (fun h3 => ?_)
      · have hS2 : 2 ≤ S := (nI_leI (by decide) (by omega)).mp h3
        refine e_4 rfl rfl ?_
        refine e_gr rfl hm.1 rfl hm.2.2.2.2.2.2.2.2.2.2.2.2.1 ?_
        refine e_0 rfl ?_
        refine e_2 rfl rfl ?_
        refine e_11 rfl ?_
        refine e_4 rfl rfl ?_
        refine e_gr rfl hm.1 rfl hm.2.2.2.2.2.2.2.2.2.2.2.1 ?_
        refine e_2 rfl rfl ?_
        refine e_48q (i := k) rfl hm.2.2.2.1 (by first | rfl | (simp only [← nI_add, ← pk_mul]; rfl) | (simp only [nI_add, pk_mul, nI_1]; done)) (by omega) (by decide) ?_
        rw [eS]
        refine e_9 rfl ?_
        refine e_0 rfl ?_
        refine e_10 rfl ?_
        refine e_48q (i := (40 * k + S - 1)) rfl hm.2.2.2.2.1 (by rw [show (1 : Int32) = nI 1 from rfl, show (40 : Int32) = nI 40 from rfl, pk_mul, nI_add, pk_sub (by omega)]) (by omega) (by decide) ?_
        refine e_25 rfl ?_
        refine e_4 rfl rfl ?_
        refine e_gr rfl hm.1 rfl hm.2.2.2.2.2.2.2.2.2.2.2.2.1 ?_
        refine e_0 rfl ?_
        refine e_2 rfl rfl ?_
        refine e_11 rfl ?_
        refine e_48q (i := (40 * k)) rfl hm.2.2.2.2.1 (by first | rfl | (simp only [← nI_add, ← pk_mul]; rfl) | (simp only [nI_add, pk_mul, nI_1]; done)) (by omega) (by decide) ?_
        refine e_25 rfl ?_
        refine e_20 rfl ?_
        refine e_6 rfl rfl ?_
        refine e_3 rfl rfl ?_
        refine e_1 rfl ?_
        refine e_24 rfl ?_
        refine e_35 rfl (fun h4 => ?_) (fun h4 => ?_)
        · refine e_3 rfl rfl ?_
          refine e_1 rfl ?_
          refine e_24 rfl ?_
          refine e_33 rfl (fun h5 => ?_) (fun h5 => ?_)
          · refine e_0 rfl ?_
            exact e_ri rfl rfl (by first | (simp only [eq_true h1, eq_true h2, eq_true h3, eq_true h4, eq_true h5, if_true, if_true, if_false, not_true_eq_false, not_false_eq_true, and_true, true_and, and_false, false_and, or_true, true_or, or_false, false_or, reduceIte]; done) | (simp only [eq_true h1, eq_true h2, eq_true h3, eq_true h4, eq_true h5, if_true, if_true, if_false, not_true_eq_false, not_false_eq_true, and_true, true_and, and_false, false_and, or_true, true_or, or_false, false_or, reduceIte]; rfl) | rfl) (by first | (simp only [eq_true h1, eq_true h2, eq_true h3, eq_true h4, eq_true h5, if_true, if_true, if_false, not_true_eq_false, not_false_eq_true, and_true, true_and, and_false, false_and, or_true, true_or, or_false, false_or, reduceIte]; done) | (simp only [eq_true h1, eq_true h2, eq_true h3, eq_true h4, eq_true h5, if_true, if_true, if_false, not_true_eq_false, not_false_eq_true, and_true, true_and, and_false, false_and, or_true, true_or, or_false, false_or, reduceIte]; rfl) | rfl)
          · refine e_0 rfl ?_
            refine e_42 rfl ?_
            exact e_ri rfl rfl (by first | (simp only [eq_true h1, eq_true h2, eq_true h3, eq_true h4, eq_false h5, if_true, if_true, if_false, not_true_eq_false, not_false_eq_true, and_true, true_and, and_false, false_and, or_true, true_or, or_false, false_or, reduceIte]; done) | (simp only [eq_true h1, eq_true h2, eq_true h3, eq_true h4, eq_false h5, if_true, if_true, if_false, not_true_eq_false, not_false_eq_true, and_true, true_and, and_false, false_and, or_true, true_or, or_false, false_or, reduceIte]; rfl) | rfl) (by first | (simp only [eq_true h1, eq_true h2, eq_true h3, eq_true h4, eq_false h5, if_true, if_true, if_false, not_true_eq_false, not_false_eq_true, and_true, true_and, and_false, false_and, or_true, true_or, or_false, false_or, reduceIte]; done) | (simp only [eq_true h1, eq_true h2, eq_true h3, eq_true h4, eq_false h5, if_true, if_true, if_false, not_true_eq_false, not_false_eq_true, and_true, true_and, and_false, false_and, or_true, true_or, or_false, false_or, reduceIte]; rfl) | rfl)
        · refine e_0 rfl ?_
          refine e_42 rfl ?_
          exact e_ri rfl rfl (by first | (simp only [eq_true h1, eq_true h2, eq_true h3, eq_false h4, if_true, if_true, if_false, not_true_eq_false, not_false_eq_true, and_true, true_and, and_false, false_and, or_true, true_or, or_false, false_or, reduceIte]; done) | (simp only [eq_true h1, eq_true h2, eq_true h3, eq_false h4, if_true, if_true, if_false, not_true_eq_false, not_false_eq_true, and_true, true_and, and_false, false_and, or_true, true_or, or_false, false_or, reduceIte]; rfl) | rfl) (by first | (simp only [eq_true h1, eq_true h2, eq_true h3, eq_false h4, if_true, if_true, if_false, not_true_eq_false, not_false_eq_true, and_true, true_and, and_false, false_and, or_true, true_or, or_false, false_or, reduceIte]; done) | (simp only [eq_true h1, eq_true h2, eq_true h3, eq_false h4, if_true, if_true, if_false, not_true_eq_false, not_false_eq_true, and_true, true_and, and_false, false_and, or_true, true_or, or_false, false_or, reduceIte]; rfl) | rfl)
      · refine e_4 rfl rfl ?_
        refine e_0 rfl ?_
        refine e_v1 rfl (by first | exact hm.1 | assumption | rfl) rfl (by decide) rfl (Nat.le_of_ble_eq_true rfl) (evo (mq_find (by exact hm) (by decide))) ?_
        exact e_ri rfl rfl (by first | (simp only [eq_true h1, eq_true h2, eq_false h3, if_true, if_true, if_false, not_true_eq_false, not_false_eq_true, and_true, true_and, and_false, false_and, or_true, true_or, or_false, false_or, reduceIte]; done) | (simp only [eq_true h1, eq_true h2, eq_false h3, if_true, if_true, if_false, not_true_eq_false, not_false_eq_true, and_true, true_and, and_false, false_and, or_true, true_or, or_false, false_or, reduceIte]; rfl) | rfl) (by first | (simp only [eq_true h1, eq_true h2, eq_false h3, if_true, if_true, if_false, not_true_eq_false, not_false_eq_true, and_true, true_and, and_false, false_and, or_true, true_or, or_false, false_or, reduceIte]; done) | (simp only [eq_true h1, eq_true h2, eq_false h3, if_true, if_true, if_false, not_true_eq_false, not_false_eq_true, and_true, true_and, and_false, false_and, or_true, true_or, or_false, false_or, reduceIte]; rfl) | rfl)
    · refine e_4 rfl rfl ?_
      refine e_0 rfl ?_
      refine e_v1 rfl (by first | exact hm.1 | assumption | rfl) rfl (by decide) rfl (Nat.le_of_ble_eq_true rfl) (evo (mq_find (by exact hm) (by decide))) ?_
      exact e_ri rfl rfl (by first | (simp only [eq_true h1, eq_false h2, if_true, if_true, if_false, not_true_eq_false, not_false_eq_true, and_true, true_and, and_false, false_and, or_true, true_or, or_false, false_or, reduceIte]; done) | (simp only [eq_true h1, eq_false h2, if_true, if_true, if_false, not_true_eq_false, not_false_eq_true, and_true, true_and, and_false, false_and, or_true, true_or, or_false, false_or, reduceIte]; rfl) | rfl) (by first | (simp only [eq_true h1, eq_false h2, if_true, if_true, if_false, not_true_eq_false, not_false_eq_true, and_true, true_and, and_false, false_and, or_true, true_or, or_false, false_or, reduceIte]; done) | (simp only [eq_true h1, eq_false h2, if_true, if_true, if_false, not_true_eq_false, not_false_eq_true, and_true, true_and, and_false, false_and, or_true, true_or, or_false, false_or, reduceIte]; rfl) | rfl)
  · refine e_0 rfl ?_
    exact e_ri rfl rfl (by first | (simp only [eq_false h1, if_true, if_true, if_false, not_true_eq_false, not_false_eq_true, and_true, true_and, and_false, false_and, or_true, true_or, or_false, false_or, reduceIte]; done) | (simp only [eq_false h1, if_true, if_true, if_false, not_true_eq_false, not_false_eq_true, and_true, true_and, and_false, false_and, or_true, true_or, or_false, false_or, reduceIte]; rfl) | rfl) (by first | (simp only [eq_false h1, if_true, if_true, if_false, not_true_eq_false, not_false_eq_true, and_true, true_and, and_false, false_and, or_true, true_or, or_false, false_or, reduceIte]; done) | (simp only [eq_false h1, if_true, if_true, if_false, not_true_eq_false, not_false_eq_true, and_true, true_and, and_false, false_and, or_true, true_or, or_false, false_or, reduceIte]; rfl) | rfl)
/-- whether the first n are acts -/
def actsB (p : Nat → Int32) : Nat → Bool
  | 0 => true
  | n + 1 => actsB p n && decide (actP (p n))
theorem actsB_s (p : Nat → Int32) (n : Nat) : actsB p (n + 1) = true ↔ actsB p n = true ∧ actP (p n) := by
  show (actsB p n && decide (actP (p n))) = true ↔ _
  rw [Bool.and_eq_true, decide_eq_true_eq]
theorem mq_acts_loop (hm : isMd μ m) {k S : Nat} (hk : k < 6) (eS : ps_i μ (m + 3) k = nI S) (hS40 : S ≤ 40) : ∀ (n i : Nat), i + n = S → ps_To (ps_XX L xs) (ps_Ev (ps_XX L xs) (d + 2)) j_X8_areActs (ps_rt j_X8_areActs (some (.int (b2i (actsB (fun x => ps_i μ (m + 4) (40 * k + x)) S = true)))) μ) (4, [(3, .int (nI i)), (2, .int (b2i (actsB (fun x => ps_i μ (m + 4) (40 * k + x)) i = true))), (0, .ref (m)), (1, .int (nI k))], [], μ) := by
  intro n
  induction n with
  | zero =>
    intro i hi
    obtain rfl : i = S := by omega
    refine e_2 rfl rfl ?_
    refine e_4 rfl rfl ?_
    refine e_gr rfl hm.1 rfl hm.2.2.2.2.2.2.2.2.2.2.2.1 ?_
    refine e_2 rfl rfl ?_
    refine e_48q (i := k) rfl hm.2.2.2.1 (by first | rfl | (simp only [← nI_add, ← pk_mul]; rfl) | (simp only [nI_add, pk_mul, nI_1]; done)) (by omega) (by decide) ?_
    rw [eS]
    refine e_39 rfl (fun h1 => ?_) (fun h1 => ?_)
    · refine e_2 rfl rfl ?_
      exact e_rz rfl rfl (by first | decide | exact b2i_01 | assumption) (by rfl) (rfl)
    · exact absurd (nI_le (Nat.le_refl _) (by omega)) h1
  | succ n ih =>
    intro i hi
    refine e_2 rfl rfl ?_
    refine e_4 rfl rfl ?_
    refine e_gr rfl hm.1 rfl hm.2.2.2.2.2.2.2.2.2.2.2.1 ?_
    refine e_2 rfl rfl ?_
    refine e_48q (i := k) rfl hm.2.2.2.1 (by first | rfl | (simp only [← nI_add, ← pk_mul]; rfl) | (simp only [nI_add, pk_mul, nI_1]; done)) (by omega) (by decide) ?_
    rw [eS]
    refine e_39 rfl (fun h1 => ?_) (fun h1 => ?_)
    · exact absurd h1 (nI_ge (by omega) (by omega))
    · refine e_2 rfl rfl ?_
      refine e_30 rfl (fun h2 => ?_) (fun h2 => ?_)
      · refine e_0 rfl ?_
        refine e_5 rfl rfl ?_
        refine e_8 rfl rfl rfl ?_
        refine e_42 rfl ?_
        refine e_lv [0, 1, 2, 3] rfl rfl ?_
        show ps_To _ _ _ _ (4, [(3, .int _), (2, .int _), (0, .ref _), (1, .int _)], [], _)
        rw [nI_1, show (0 : Int32) = b2i (actsB (fun x => ps_i μ (m + 4) (40 * k + x)) (i + 1) = true) from (b2i_f (fun z => b2i_0.mp h2 ((actsB_s _ i).mp z).1)).symm]
        exact ih (i + 1) (by omega)
      · refine e_4 rfl rfl ?_
        refine e_gr rfl hm.1 rfl hm.2.2.2.2.2.2.2.2.2.2.2.2.1 ?_
        refine e_0 rfl ?_
        refine e_2 rfl rfl ?_
        refine e_11 rfl ?_
        refine e_2 rfl rfl ?_
        refine e_9 rfl ?_
        refine e_48q (i := ((40 * k) + i)) rfl hm.2.2.2.2.1 (by first | rfl | (simp only [← nI_add, ← pk_mul]; rfl) | (simp only [nI_add, pk_mul, nI_1]; done)) (by omega) (by decide) ?_
        refine e_s1 rfl rfl rfl (Nat.le_of_ble_eq_true rfl) (sm_isAct _) ?_
        refine e_30b rfl (fun h3 => ?_) (fun h3 => ?_)
        · refine e_0 rfl ?_
          refine e_5 rfl rfl ?_
          refine e_8 rfl rfl rfl ?_
          refine e_42 rfl ?_
          refine e_lv [0, 1, 2, 3] rfl rfl ?_
          show ps_To _ _ _ _ (4, [(3, .int _), (2, .int _), (0, .ref _), (1, .int _)], [], _)
          rw [nI_1, show (0 : Int32) = b2i (actsB (fun x => ps_i μ (m + 4) (40 * k + x)) (i + 1) = true) from (b2i_f (fun z => h3 ((actsB_s _ i).mp z).2)).symm]
          exact ih (i + 1) (by omega)
        · refine e_0 rfl ?_
          refine e_42 rfl ?_
          refine e_5 rfl rfl ?_
          refine e_8 rfl rfl rfl ?_
          refine e_42 rfl ?_
          refine e_lv [0, 1, 2, 3] rfl rfl ?_
          show ps_To _ _ _ _ (4, [(3, .int _), (2, .int _), (0, .ref _), (1, .int _)], [], _)
          rw [nI_1, show (1 : Int32) = b2i (actsB (fun x => ps_i μ (m + 4) (40 * k + x)) (i + 1) = true) from (b2i_t ((actsB_s _ i).mpr ⟨Classical.not_not.mp (fun z => h2 (b2i_0.mpr z)), h3⟩)).symm]
          exact ih (i + 1) (by omega)
theorem mq_areActs (hm : isMd μ m) {k S : Nat} (hk : k < 6) (eS : ps_i μ (m + 3) k = nI S) (hS40 : S ≤ 40) : ps_Ev (ps_XX L xs) (d + 3) j_X8_areActs [.ref m, .int (nI k)] μ (some (.int (b2i (actsB (fun x => ps_i μ (m + 4) (40 * k + x)) S = true)))) μ := by
  refine ⟨Nat.le_of_ble_eq_true rfl, ?_⟩
  refine e_0 rfl ?_
  refine e_5 rfl rfl ?_
  refine e_0 rfl ?_
  refine e_5 rfl rfl ?_
  exact mq_acts_loop hm hk eS hS40 S 0 (by omega)
end MQ3
