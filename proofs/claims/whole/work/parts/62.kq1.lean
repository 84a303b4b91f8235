-- ===== the class: calls on rows and texts =====
abbrev hasZ (z i : Int32) : Prop := ¬ i < 0 ∧ ¬ z ≤ i
section KQ1
variable {L : Nat} {xs : Nat → Int32} {d : Nat} {μ : ps_M}
theorem kq_row (hp : isPs μ) {r : Int32} {k : Nat} (hr : rowP r → r = nI k ∧ k < 6) {n : Int32} {N : Nat} (hn : 0 ≤ n → n ≤ 40 → n = nI N ∧ N ≤ 40) : evI (ps_XX L xs) (d + 4) j_X7_row [.ref 0, .int r, .int n] (μ) (if ¬ rowP r ∨ ¬ n ≤ 40 then (-1, μ) else if ¬ 0 ≤ n then (-3, FC μ 5) else (n, RN μ (45 + 2 * k) N 0)) := by
  refine ⟨Nat.le_of_ble_eq_true rfl, ?_⟩
  refine e_2 rfl rfl ?_
  refine e_s1 rfl rfl rfl (Nat.le_of_ble_eq_true rfl) (k_isRow _) ?_
  refine e_30b rfl (fun h1 => ?_) (fun h1 => ?_)
  · refine e_0 rfl ?_
    exact e_ri rfl rfl (by first | (simp only [eq_false h1, if_true, if_true, if_false, not_true_eq_false, not_false_eq_true, and_true, true_and, and_false, false_and, or_true, true_or, or_false, false_or, reduceIte]; done) | (simp only [eq_false h1, if_true, if_true, if_false, not_true_eq_false, not_false_eq_true, and_true, true_and, and_false, false_and, or_true, true_or, or_false, false_or, reduceIte]; rfl) | rfl) (by first | (simp only [eq_false h1, if_true, if_true, if_false, not_true_eq_false, not_false_eq_true, and_true, true_and, and_false, false_and, or_true, true_or, or_false, false_or, reduceIte]; done) | (simp only [eq_false h1, if_true, if_true, if_false, not_true_eq_false, not_false_eq_true, and_true, true_and, and_false, false_and, or_true, true_or, or_false, false_or, reduceIte]; rfl) | rfl)
  · refine e_2 rfl rfl ?_
    refine e_0 rfl ?_
    refine e_41 rfl (fun h2 => ?_) (fun h2 => ?_)
    · refine e_2 rfl rfl ?_
      refine e_33 rfl (fun h3 => ?_) (fun h3 => ?_)
      · obtain ⟨rfl, hk⟩ := hr h1
        obtain ⟨rfl, hN40⟩ := hn h3 h2
        refine e_4 rfl rfl ?_
        refine e_gr rfl (p_0 hp) rfl (p_f0 hp) ?_
        refine e_2 rfl rfl ?_
        refine e_gaq (i := k) rfl (p_1 hp) (by decide) (by decide) (by first | rfl | (simp only [← nI_add, ← pk_mul]; rfl) | (simp only [nI_add, pk_mul, nI_1]; done)) (by omega) (by decide) (p_r1 hp (by omega)) ?_
        refine e_2 rfl rfl ?_
        refine e_v1v rfl (by first | exact p_0 hp | exact (p_ro hp hk).1) rfl (by decide) rfl (Nat.le_of_ble_eq_true rfl) (kr_renew (p_ro hp hk) hN40) ?_
        refine e_2 rfl rfl ?_
        exact e_ri rfl rfl (by first | (simp only [eq_true h1, eq_true h2, eq_true h3, if_true, if_true, if_false, not_true_eq_false, not_false_eq_true, and_true, true_and, and_false, false_and, or_true, true_or, or_false, false_or, reduceIte]; done) | (simp only [eq_true h1, eq_true h2, eq_true h3, if_true, if_true, if_false, not_true_eq_false, not_false_eq_true, and_true, true_and, and_false, false_and, or_true, true_or, or_false, false_or, reduceIte]; rfl) | rfl) (by first | (simp only [eq_true h1, eq_true h2, eq_true h3, if_true, if_true, if_false, not_true_eq_false, not_false_eq_true, and_true, true_and, and_false, false_and, or_true, true_or, or_false, false_or, reduceIte]; done) | (simp only [eq_true h1, eq_true h2, eq_true h3, if_true, if_true, if_false, not_true_eq_false, not_false_eq_true, and_true, true_and, and_false, false_and, or_true, true_or, or_false, false_or, reduceIte]; rfl) | rfl)
      · refine e_4 rfl rfl ?_
        refine e_0 rfl ?_
        refine e_v1 rfl (by first | exact p_0 hp | exact (p_ro hp hk).1) rfl (by decide) rfl (Nat.le_of_ble_eq_true rfl) (evo (k_find (f := 5) hp (by decide) (by decide))) ?_
        exact e_ri rfl rfl (by first | (simp only [eq_true h1, eq_true h2, eq_false h3, if_true, if_true, if_false, not_true_eq_false, not_false_eq_true, and_true, true_and, and_false, false_and, or_true, true_or, or_false, false_or, reduceIte]; done) | (simp only [eq_true h1, eq_true h2, eq_false h3, if_true, if_true, if_false, not_true_eq_false, not_false_eq_true, and_true, true_and, and_false, false_and, or_true, true_or, or_false, false_or, reduceIte]; rfl) | rfl) (by first | (simp only [eq_true h1, eq_true h2, eq_false h3, if_true, if_true, if_false, not_true_eq_false, not_false_eq_true, and_true, true_and, and_false, false_and, or_true, true_or, or_false, false_or, reduceIte]; done) | (simp only [eq_true h1, eq_true h2, eq_false h3, if_true, if_true, if_false, not_true_eq_false, not_false_eq_true, and_true, true_and, and_false, false_and, or_true, true_or, or_false, false_or, reduceIte]; rfl) | rfl)
    · refine e_0 rfl ?_
      exact e_ri rfl rfl (by first | (simp only [eq_true h1, eq_false h2, if_true, if_true, if_false, not_true_eq_false, not_false_eq_true, and_true, true_and, and_false, false_and, or_true, true_or, or_false, false_or, reduceIte]; done) | (simp only [eq_true h1, eq_false h2, if_true, if_true, if_false, not_true_eq_false, not_false_eq_true, and_true, true_and, and_false, false_and, or_true, true_or, or_false, false_or, reduceIte]; rfl) | rfl) (by first | (simp only [eq_true h1, eq_false h2, if_true, if_true, if_false, not_true_eq_false, not_false_eq_true, and_true, true_and, and_false, false_and, or_true, true_or, or_false, false_or, reduceIte]; done) | (simp only [eq_true h1, eq_false h2, if_true, if_true, if_false, not_true_eq_false, not_false_eq_true, and_true, true_and, and_false, false_and, or_true, true_or, or_false, false_or, reduceIte]; rfl) | rfl)
theorem kq_text (hp : isPs μ) {r : Int32} {k : Nat} (hr : textP r → r = nI k ∧ k < 4) {n : Int32} {N : Nat} (hn : 0 ≤ n → n ≤ 60 → n = nI N ∧ N ≤ 60) : evI (ps_XX L xs) (d + 4) j_X7_text [.ref 0, .int r, .int n] (μ) (if ¬ textP r ∨ ¬ n ≤ 60 then (-1, μ) else if ¬ 0 ≤ n then (-3, FC μ 5) else (n, RN μ (57 + 2 * k) N 32)) := by
  refine ⟨Nat.le_of_ble_eq_true rfl, ?_⟩
  refine e_2 rfl rfl ?_
  refine e_s1 rfl rfl rfl (Nat.le_of_ble_eq_true rfl) (k_isText _) ?_
  refine e_30b rfl (fun h1 => ?_) (fun h1 => ?_)
  · refine e_0 rfl ?_
    exact e_ri rfl rfl (by first | (simp only [eq_false h1, if_true, if_true, if_false, not_true_eq_false, not_false_eq_true, and_true, true_and, and_false, false_and, or_true, true_or, or_false, false_or, reduceIte]; done) | (simp only [eq_false h1, if_true, if_true, if_false, not_true_eq_false, not_false_eq_true, and_true, true_and, and_false, false_and, or_true, true_or, or_false, false_or, reduceIte]; rfl) | rfl) (by first | (simp only [eq_false h1, if_true, if_true, if_false, not_true_eq_false, not_false_eq_true, and_true, true_and, and_false, false_and, or_true, true_or, or_false, false_or, reduceIte]; done) | (simp only [eq_false h1, if_true, if_true, if_false, not_true_eq_false, not_false_eq_true, and_true, true_and, and_false, false_and, or_true, true_or, or_false, false_or, reduceIte]; rfl) | rfl)
  · refine e_2 rfl rfl ?_
    refine e_0 rfl ?_
    refine e_41 rfl (fun h2 => ?_) (fun h2 => ?_)
    · refine e_2 rfl rfl ?_
      refine e_33 rfl (fun h3 => ?_) (fun h3 => ?_)
      · obtain ⟨rfl, hk⟩ := hr h1
        obtain ⟨rfl, hN60⟩ := hn h3 h2
        refine e_4 rfl rfl ?_
        refine e_gr rfl (p_0 hp) rfl (p_f1 hp) ?_
        refine e_2 rfl rfl ?_
        refine e_gaq (i := k) rfl (p_2 hp) (by decide) (by decide) (by first | rfl | (simp only [← nI_add, ← pk_mul]; rfl) | (simp only [nI_add, pk_mul, nI_1]; done)) (by omega) (by decide) (p_r2 hp (by omega)) ?_
        refine e_2 rfl rfl ?_
        refine e_v1v rfl (by first | exact p_0 hp | exact (p_tx hp hk).1) rfl (by decide) rfl (Nat.le_of_ble_eq_true rfl) (kt_renew (p_tx hp hk) hN60) ?_
        refine e_2 rfl rfl ?_
        exact e_ri rfl rfl (by first | (simp only [eq_true h1, eq_true h2, eq_true h3, if_true, if_true, if_false, not_true_eq_false, not_false_eq_true, and_true, true_and, and_false, false_and, or_true, true_or, or_false, false_or, reduceIte]; done) | (simp only [eq_true h1, eq_true h2, eq_true h3, if_true, if_true, if_false, not_true_eq_false, not_false_eq_true, and_true, true_and, and_false, false_and, or_true, true_or, or_false, false_or, reduceIte]; rfl) | rfl) (by first | (simp only [eq_true h1, eq_true h2, eq_true h3, if_true, if_true, if_false, not_true_eq_false, not_false_eq_true, and_true, true_and, and_false, false_and, or_true, true_or, or_false, false_or, reduceIte]; done) | (simp only [eq_true h1, eq_true h2, eq_true h3, if_true, if_true, if_false, not_true_eq_false, not_false_eq_true, and_true, true_and, and_false, false_and, or_true, true_or, or_false, false_or, reduceIte]; rfl) | rfl)
      · refine e_4 rfl rfl ?_
        refine e_0 rfl ?_
        refine e_v1 rfl (by first | exact p_0 hp | exact (p_tx hp hk).1) rfl (by decide) rfl (Nat.le_of_ble_eq_true rfl) (evo (k_find (f := 5) hp (by decide) (by decide))) ?_
        exact e_ri rfl rfl (by first | (simp only [eq_true h1, eq_true h2, eq_false h3, if_true, if_true, if_false, not_true_eq_false, not_false_eq_true, and_true, true_and, and_false, false_and, or_true, true_or, or_false, false_or, reduceIte]; done) | (simp only [eq_true h1, eq_true h2, eq_false h3, if_true, if_true, if_false, not_true_eq_false, not_false_eq_true, and_true, true_and, and_false, false_and, or_true, true_or, or_false, false_or, reduceIte]; rfl) | rfl) (by first | (simp only [eq_true h1, eq_true h2, eq_false h3, if_true, if_true, if_false, not_true_eq_false, not_false_eq_true, and_true, true_and, and_false, false_and, or_true, true_or, or_false, false_or, reduceIte]; done) | (simp only [eq_true h1, eq_true h2, eq_false h3, if_true, if_true, if_false, not_true_eq_false, not_false_eq_true, and_true, true_and, and_false, false_and, or_true, true_or, or_false, false_or, reduceIte]; rfl) | rfl)
    · refine e_0 rfl ?_
      exact e_ri rfl rfl (by first | (simp only [eq_true h1, eq_false h2, if_true, if_true, if_false, not_true_eq_false, not_false_eq_true, and_true, true_and, and_false, false_and, or_true, true_or, or_false, false_or, reduceIte]; done) | (simp only [eq_true h1, eq_false h2, if_true, if_true, if_false, not_true_eq_false, not_false_eq_true, and_true, true_and, and_false, false_and, or_true, true_or, or_false, false_or, reduceIte]; rfl) | rfl) (by first | (simp only [eq_true h1, eq_false h2, if_true, if_true, if_false, not_true_eq_false, not_false_eq_true, and_true, true_and, and_false, false_and, or_true, true_or, or_false, false_or, reduceIte]; done) | (simp only [eq_true h1, eq_false h2, if_true, if_true, if_false, not_true_eq_false, not_false_eq_true, and_true, true_and, and_false, false_and, or_true, true_or, or_false, false_or, reduceIte]; rfl) | rfl)
theorem kq_lay (hp : isPs μ) {r : Int32} {k : Nat} (hr : rowP r → r = nI k ∧ k < 6) {i : Int32} {i' : Nat} (hi : hasZ (ps_i μ (45 + 2 * k) 0) i → i = nI i' ∧ i' < 40) (v : Int32) : evI (ps_XX L xs) (d + 4) j_X7_lay [.ref 0, .int r, .int i, .int v] (μ) (if ¬ rowP r then (-1, μ) else if ¬ 0 ≤ ps_i μ (45 + 2 * k) 0 then (-3, FC μ 1) else if ¬ hasZ (ps_i μ (45 + 2 * k) 0) i then (-3, FC μ 2) else (1, ps_sI (ps_sI μ 0 11 (ps_i μ (45 + 2 * k + 1) i')) (45 + 2 * k + 1) i' v)) := by
  by_cases hb : rowP r
  · obtain ⟨rfl, hk⟩ := hr hb
    rw [if_neg (Classical.not_not.mpr hb)]
    have fa := kr_findingAt (L := L) (xs := xs) (d := d + 1) (p_ro hp hk) i
    by_cases hz : 0 ≤ ps_i μ (45 + 2 * k) 0
    · rw [if_neg (Classical.not_not.mpr hz)] at fa ⊢
      by_cases hi2 : hasZ (ps_i μ (45 + 2 * k) 0) i
      · rw [if_pos hi2] at fa
        rw [if_neg (Classical.not_not.mpr hi2)]
        obtain ⟨rfl, hi40⟩ := hi hi2
        refine ⟨Nat.le_of_ble_eq_true rfl, ?_⟩
        refine e_2 rfl rfl ?_
        refine e_s1 rfl rfl rfl (Nat.le_of_ble_eq_true rfl) (k_isRow _) ?_
        refine e_31b rfl (fun h1 => ?_) (fun h1 => ?_)
        · refine e_4 rfl rfl ?_
          refine e_gr rfl (p_0 hp) rfl (p_f0 hp) ?_
          refine e_2 rfl rfl ?_
          refine e_gaq (i := k) rfl (p_1 hp) (by decide) (by decide) (by first | rfl | (simp only [← nI_add, ← pk_mul]; rfl) | (simp only [nI_add, pk_mul, nI_1]; done)) (by omega) (by decide) (p_r1 hp (by omega)) ?_
          refine e_2 rfl rfl ?_
          refine e_v1 rfl (by first | exact p_0 hp | exact (p_ro hp hk).1) rfl (by decide) rfl (Nat.le_of_ble_eq_true rfl) (fa) ?_
          refine e_5 rfl rfl ?_
          refine e_2 rfl rfl ?_
          refine e_30 rfl (fun h2 => ?_) (fun h2 => ?_)
          · refine e_4 rfl rfl ?_
            refine e_4 rfl rfl ?_
            refine e_gr rfl (p_0 hp) rfl (p_f0 hp) ?_
            refine e_2 rfl rfl ?_
            refine e_gaq (i := k) rfl (p_1 hp) (by decide) (by decide) (by first | rfl | (simp only [← nI_add, ← pk_mul]; rfl) | (simp only [nI_add, pk_mul, nI_1]; done)) (by omega) (by decide) (p_r1 hp (by omega)) ?_
            refine e_gr rfl (p_ro hp (k := k) (by omega)).1 rfl (p_ro hp (k := k) (by omega)).2.2 ?_
            refine e_2 rfl rfl ?_
            refine e_48q (i := i') rfl (p_ro hp (k := k) (by omega)).2.1 (by first | rfl | (simp only [← nI_add, ← pk_mul]; rfl) | (simp only [nI_add, pk_mul, nI_1]; done)) (by omega) (by decide) ?_
            refine e_pi rfl (p_0 hp) rfl (Or.inl rfl) ?_
            refine e_4 rfl rfl ?_
            refine e_gr rfl (p_0 hp) rfl (p_f0 hp) ?_
            refine e_2 rfl rfl ?_
            refine e_gaq (i := k) rfl (p_1 hp) (by decide) (by decide) (by first | rfl | (simp only [← nI_add, ← pk_mul]; rfl) | (simp only [nI_add, pk_mul, nI_1]; done)) (by omega) (by decide) (p_r1 hp (by omega)) ?_
            refine e_gr rfl (p_ro hp (k := k) (by omega)).1 rfl (p_ro hp (k := k) (by omega)).2.2 ?_
            refine e_2 rfl rfl ?_
            refine e_2 rfl rfl ?_
            refine e_49q (i := i') rfl (p_ro hp (k := k) (by omega)).2.1 (by first | rfl | (simp only [← nI_add, ← pk_mul]; rfl) | (simp only [nI_add, pk_mul, nI_1]; done)) (by omega) (by decide) ?_
            refine e_0 rfl ?_
            exact e_ri rfl rfl (by rfl) (by first | rfl | (rw [pk_vb]) | (rw [sI_off (by omega)]))
          · exact absurd rfl h2
        · exact absurd hb h1
      · rw [if_neg hi2] at fa
        rw [if_pos hi2]
        refine ⟨Nat.le_of_ble_eq_true rfl, ?_⟩
        refine e_2 rfl rfl ?_
        refine e_s1 rfl rfl rfl (Nat.le_of_ble_eq_true rfl) (k_isRow _) ?_
        refine e_31b rfl (fun h1 => ?_) (fun h1 => ?_)
        · refine e_4 rfl rfl ?_
          refine e_gr rfl (p_0 hp) rfl (p_f0 hp) ?_
          refine e_2 rfl rfl ?_
          refine e_gaq (i := k) rfl (p_1 hp) (by decide) (by decide) (by first | rfl | (simp only [← nI_add, ← pk_mul]; rfl) | (simp only [nI_add, pk_mul, nI_1]; done)) (by omega) (by decide) (p_r1 hp (by omega)) ?_
          refine e_2 rfl rfl ?_
          refine e_v1 rfl (by first | exact p_0 hp | exact (p_ro hp hk).1) rfl (by decide) rfl (Nat.le_of_ble_eq_true rfl) (fa) ?_
          refine e_5 rfl rfl ?_
          refine e_2 rfl rfl ?_
          refine e_30 rfl (fun h2 => ?_) (fun h2 => ?_)
          · exact absurd h2 (by decide)
          · refine e_4 rfl rfl ?_
            refine e_2 rfl rfl ?_
            refine e_v1 rfl (by first | exact p_0 hp | exact (p_ro hp hk).1) rfl (by decide) rfl (Nat.le_of_ble_eq_true rfl) (evo (k_find (f := 2) hp (by decide) (by decide))) ?_
            exact e_ri rfl rfl (by rfl) (rfl)
        · exact absurd hb h1
    · rw [if_pos hz] at fa ⊢
      refine ⟨Nat.le_of_ble_eq_true rfl, ?_⟩
      refine e_2 rfl rfl ?_
      refine e_s1 rfl rfl rfl (Nat.le_of_ble_eq_true rfl) (k_isRow _) ?_
      refine e_31b rfl (fun h1 => ?_) (fun h1 => ?_)
      · refine e_4 rfl rfl ?_
        refine e_gr rfl (p_0 hp) rfl (p_f0 hp) ?_
        refine e_2 rfl rfl ?_
        refine e_gaq (i := k) rfl (p_1 hp) (by decide) (by decide) (by first | rfl | (simp only [← nI_add, ← pk_mul]; rfl) | (simp only [nI_add, pk_mul, nI_1]; done)) (by omega) (by decide) (p_r1 hp (by omega)) ?_
        refine e_2 rfl rfl ?_
        refine e_v1 rfl (by first | exact p_0 hp | exact (p_ro hp hk).1) rfl (by decide) rfl (Nat.le_of_ble_eq_true rfl) (fa) ?_
        refine e_5 rfl rfl ?_
        refine e_2 rfl rfl ?_
        refine e_30 rfl (fun h2 => ?_) (fun h2 => ?_)
        · exact absurd h2 (by decide)
        · refine e_4 rfl rfl ?_
          refine e_2 rfl rfl ?_
          refine e_v1 rfl (by first | exact p_0 hp | exact (p_ro hp hk).1) rfl (by decide) rfl (Nat.le_of_ble_eq_true rfl) (evo (k_find (f := 1) hp (by decide) (by decide))) ?_
          exact e_ri rfl rfl (by rfl) (rfl)
      · exact absurd hb h1
  · rw [if_pos hb]
    refine ⟨Nat.le_of_ble_eq_true rfl, ?_⟩
    refine e_2 rfl rfl ?_
    refine e_s1 rfl rfl rfl (Nat.le_of_ble_eq_true rfl) (k_isRow _) ?_
    refine e_31b rfl (fun h1 => ?_) (fun h1 => ?_)
    · exact absurd h1 hb
    · refine e_0 rfl ?_
      exact e_ri rfl rfl (by rfl) (rfl)
theorem kq_at (hp : isPs μ) {r : Int32} {k : Nat} (hr : rowP r → r = nI k ∧ k < 6) {i : Int32} {i' : Nat} (hi : hasZ (ps_i μ (45 + 2 * k) 0) i → i = nI i' ∧ i' < 40)  : evI (ps_XX L xs) (d + 4) j_X7_at [.ref 0, .int r, .int i] (μ) (if ¬ rowP r then (-1, μ) else if ¬ 0 ≤ ps_i μ (45 + 2 * k) 0 then (-3, FC μ 1) else if ¬ hasZ (ps_i μ (45 + 2 * k) 0) i then (-3, FC μ 2) else (1, ps_sI μ 0 11 (ps_i μ (45 + 2 * k + 1) i'))) := by
  by_cases hb : rowP r
  · obtain ⟨rfl, hk⟩ := hr hb
    rw [if_neg (Classical.not_not.mpr hb)]
    have fa := kr_findingAt (L := L) (xs := xs) (d := d + 1) (p_ro hp hk) i
    by_cases hz : 0 ≤ ps_i μ (45 + 2 * k) 0
    · rw [if_neg (Classical.not_not.mpr hz)] at fa ⊢
      by_cases hi2 : hasZ (ps_i μ (45 + 2 * k) 0) i
      · rw [if_pos hi2] at fa
        rw [if_neg (Classical.not_not.mpr hi2)]
        obtain ⟨rfl, hi40⟩ := hi hi2
        refine ⟨Nat.le_of_ble_eq_true rfl, ?_⟩
        refine e_2 rfl rfl ?_
        refine e_s1 rfl rfl rfl (Nat.le_of_ble_eq_true rfl) (k_isRow _) ?_
        refine e_31b rfl (fun h1 => ?_) (fun h1 => ?_)
        · refine e_4 rfl rfl ?_
          refine e_gr rfl (p_0 hp) rfl (p_f0 hp) ?_
          refine e_2 rfl rfl ?_
          refine e_gaq (i := k) rfl (p_1 hp) (by decide) (by decide) (by first | rfl | (simp only [← nI_add, ← pk_mul]; rfl) | (simp only [nI_add, pk_mul, nI_1]; done)) (by omega) (by decide) (p_r1 hp (by omega)) ?_
          refine e_2 rfl rfl ?_
          refine e_v1 rfl (by first | exact p_0 hp | exact (p_ro hp hk).1) rfl (by decide) rfl (Nat.le_of_ble_eq_true rfl) (fa) ?_
          refine e_5 rfl rfl ?_
          refine e_2 rfl rfl ?_
          refine e_30 rfl (fun h2 => ?_) (fun h2 => ?_)
          · refine e_4 rfl rfl ?_
            refine e_4 rfl rfl ?_
            refine e_gr rfl (p_0 hp) rfl (p_f0 hp) ?_
            refine e_2 rfl rfl ?_
            refine e_gaq (i := k) rfl (p_1 hp) (by decide) (by decide) (by first | rfl | (simp only [← nI_add, ← pk_mul]; rfl) | (simp only [nI_add, pk_mul, nI_1]; done)) (by omega) (by decide) (p_r1 hp (by omega)) ?_
            refine e_gr rfl (p_ro hp (k := k) (by omega)).1 rfl (p_ro hp (k := k) (by omega)).2.2 ?_
            refine e_2 rfl rfl ?_
            refine e_48q (i := i') rfl (p_ro hp (k := k) (by omega)).2.1 (by first | rfl | (simp only [← nI_add, ← pk_mul]; rfl) | (simp only [nI_add, pk_mul, nI_1]; done)) (by omega) (by decide) ?_
            refine e_pi rfl (p_0 hp) rfl (Or.inl rfl) ?_
            refine e_0 rfl ?_
            exact e_ri rfl rfl (by rfl) (by first | rfl | (rw [pk_vb]) | (rw [sI_off (by omega)]))
          · exact absurd rfl h2
        · exact absurd hb h1
      · rw [if_neg hi2] at fa
        rw [if_pos hi2]
        refine ⟨Nat.le_of_ble_eq_true rfl, ?_⟩
        refine e_2 rfl rfl ?_
        refine e_s1 rfl rfl rfl (Nat.le_of_ble_eq_true rfl) (k_isRow _) ?_
        refine e_31b rfl (fun h1 => ?_) (fun h1 => ?_)
        · refine e_4 rfl rfl ?_
          refine e_gr rfl (p_0 hp) rfl (p_f0 hp) ?_
          refine e_2 rfl rfl ?_
          refine e_gaq (i := k) rfl (p_1 hp) (by decide) (by decide) (by first | rfl | (simp only [← nI_add, ← pk_mul]; rfl) | (simp only [nI_add, pk_mul, nI_1]; done)) (by omega) (by decide) (p_r1 hp (by omega)) ?_
          refine e_2 rfl rfl ?_
          refine e_v1 rfl (by first | exact p_0 hp | exact (p_ro hp hk).1) rfl (by decide) rfl (Nat.le_of_ble_eq_true rfl) (fa) ?_
          refine e_5 rfl rfl ?_
          refine e_2 rfl rfl ?_
          refine e_30 rfl (fun h2 => ?_) (fun h2 => ?_)
          · exact absurd h2 (by decide)
          · refine e_4 rfl rfl ?_
            refine e_2 rfl rfl ?_
            refine e_v1 rfl (by first | exact p_0 hp | exact (p_ro hp hk).1) rfl (by decide) rfl (Nat.le_of_ble_eq_true rfl) (evo (k_find (f := 2) hp (by decide) (by decide))) ?_
            exact e_ri rfl rfl (by rfl) (rfl)
        · exact absurd hb h1
    · rw [if_pos hz] at fa ⊢
      refine ⟨Nat.le_of_ble_eq_true rfl, ?_⟩
      refine e_2 rfl rfl ?_
      refine e_s1 rfl rfl rfl (Nat.le_of_ble_eq_true rfl) (k_isRow _) ?_
      refine e_31b rfl (fun h1 => ?_) (fun h1 => ?_)
      · refine e_4 rfl rfl ?_
        refine e_gr rfl (p_0 hp) rfl (p_f0 hp) ?_
        refine e_2 rfl rfl ?_
        refine e_gaq (i := k) rfl (p_1 hp) (by decide) (by decide) (by first | rfl | (simp only [← nI_add, ← pk_mul]; rfl) | (simp only [nI_add, pk_mul, nI_1]; done)) (by omega) (by decide) (p_r1 hp (by omega)) ?_
        refine e_2 rfl rfl ?_
        refine e_v1 rfl (by first | exact p_0 hp | exact (p_ro hp hk).1) rfl (by decide) rfl (Nat.le_of_ble_eq_true rfl) (fa) ?_
        refine e_5 rfl rfl ?_
        refine e_2 rfl rfl ?_
        refine e_30 rfl (fun h2 => ?_) (fun h2 => ?_)
        · exact absurd h2 (by decide)
        · refine e_4 rfl rfl ?_
          refine e_2 rfl rfl ?_
          refine e_v1 rfl (by first | exact p_0 hp | exact (p_ro hp hk).1) rfl (by decide) rfl (Nat.le_of_ble_eq_true rfl) (evo (k_find (f := 1) hp (by decide) (by decide))) ?_
          exact e_ri rfl rfl (by rfl) (rfl)
      · exact absurd hb h1
  · rw [if_pos hb]
    refine ⟨Nat.le_of_ble_eq_true rfl, ?_⟩
    refine e_2 rfl rfl ?_
    refine e_s1 rfl rfl rfl (Nat.le_of_ble_eq_true rfl) (k_isRow _) ?_
    refine e_31b rfl (fun h1 => ?_) (fun h1 => ?_)
    · exact absurd h1 hb
    · refine e_0 rfl ?_
      exact e_ri rfl rfl (by rfl) (rfl)
theorem kq_put (hp : isPs μ) {r : Int32} {k : Nat} (hr : textP r → r = nI k ∧ k < 4) {i : Int32} {i' : Nat} (hi : hasZ (ps_i μ (57 + 2 * k) 0) i → i = nI i' ∧ i' < 60) (v : Int32) : evI (ps_XX L xs) (d + 4) j_X7_put [.ref 0, .int r, .int i, .int v] (μ) (if ¬ textP r then (-1, μ) else if ¬ 0 ≤ ps_i μ (57 + 2 * k) 0 then (-3, FC μ 1) else if ¬ hasZ (ps_i μ (57 + 2 * k) 0) i then (-3, FC μ 2) else (ps_i μ (57 + 2 * k + 1) i' + 1000, ps_sI μ (57 + 2 * k + 1) i' v.toInt8.toInt32)) := by
  by_cases hb : textP r
  · obtain ⟨rfl, hk⟩ := hr hb
    rw [if_neg (Classical.not_not.mpr hb)]
    have fa := kt_findingAt (L := L) (xs := xs) (d := d + 1) (p_tx hp hk) i
    by_cases hz : 0 ≤ ps_i μ (57 + 2 * k) 0
    · rw [if_neg (Classical.not_not.mpr hz)] at fa ⊢
      by_cases hi2 : hasZ (ps_i μ (57 + 2 * k) 0) i
      · rw [if_pos hi2] at fa
        rw [if_neg (Classical.not_not.mpr hi2)]
        obtain ⟨rfl, hi40⟩ := hi hi2
        refine ⟨Nat.le_of_ble_eq_true rfl, ?_⟩
        refine e_2 rfl rfl ?_
        refine e_s1 rfl rfl rfl (Nat.le_of_ble_eq_true rfl) (k_isText _) ?_
        refine e_31b rfl (fun h1 => ?_) (fun h1 => ?_)
        · refine e_4 rfl rfl ?_
          refine e_gr rfl (p_0 hp) rfl (p_f1 hp) ?_
          refine e_2 rfl rfl ?_
          refine e_gaq (i := k) rfl (p_2 hp) (by decide) (by decide) (by first | rfl | (simp only [← nI_add, ← pk_mul]; rfl) | (simp only [nI_add, pk_mul, nI_1]; done)) (by omega) (by decide) (p_r2 hp (by omega)) ?_
          refine e_2 rfl rfl ?_
          refine e_v1 rfl (by first | exact p_0 hp | exact (p_tx hp hk).1) rfl (by decide) rfl (Nat.le_of_ble_eq_true rfl) (fa) ?_
          refine e_5 rfl rfl ?_
          refine e_2 rfl rfl ?_
          refine e_30 rfl (fun h2 => ?_) (fun h2 => ?_)
          · refine e_4 rfl rfl ?_
            refine e_gr rfl (p_0 hp) rfl (p_f1 hp) ?_
            refine e_2 rfl rfl ?_
            refine e_gaq (i := k) rfl (p_2 hp) (by decide) (by decide) (by first | rfl | (simp only [← nI_add, ← pk_mul]; rfl) | (simp only [nI_add, pk_mul, nI_1]; done)) (by omega) (by decide) (p_r2 hp (by omega)) ?_
            refine e_gr rfl (p_tx hp (k := k) (by omega)).1 rfl (p_tx hp (k := k) (by omega)).2.2 ?_
            refine e_2 rfl rfl ?_
            refine e_50q (i := i') rfl (p_tx hp (k := k) (by omega)).2.1 (by first | rfl | (simp only [← nI_add, ← pk_mul]; rfl) | (simp only [nI_add, pk_mul, nI_1]; done)) (by omega) (by decide) ?_
            refine e_5 rfl rfl ?_
            refine e_4 rfl rfl ?_
            refine e_gr rfl (p_0 hp) rfl (p_f1 hp) ?_
            refine e_2 rfl rfl ?_
            refine e_gaq (i := k) rfl (p_2 hp) (by decide) (by decide) (by first | rfl | (simp only [← nI_add, ← pk_mul]; rfl) | (simp only [nI_add, pk_mul, nI_1]; done)) (by omega) (by decide) (p_r2 hp (by omega)) ?_
            refine e_gr rfl (p_tx hp (k := k) (by omega)).1 rfl (p_tx hp (k := k) (by omega)).2.2 ?_
            refine e_2 rfl rfl ?_
            refine e_2 rfl rfl ?_
            refine e_27 rfl ?_
            refine e_51q (i := i') rfl (p_tx hp (k := k) (by omega)).2.1 (by first | rfl | (simp only [← nI_add, ← pk_mul]; rfl) | (simp only [nI_add, pk_mul, nI_1]; done)) (by omega) (by decide) ?_
            refine e_2 rfl rfl ?_
            refine e_0 rfl ?_
            refine e_9 rfl ?_
            exact e_ri rfl rfl (by rfl) (by first | rfl | (rw [pk_vb]) | (rw [sI_off (by omega)]))
          · exact absurd rfl h2
        · exact absurd hb h1
      · rw [if_neg hi2] at fa
        rw [if_pos hi2]
        refine ⟨Nat.le_of_ble_eq_true rfl, ?_⟩
        refine e_2 rfl rfl ?_
        refine e_s1 rfl rfl rfl (Nat.le_of_ble_eq_true rfl) (k_isText _) ?_
        refine e_31b rfl (fun h1 => ?_) (fun h1 => ?_)
        · refine e_4 rfl rfl ?_
          refine e_gr rfl (p_0 hp) rfl (p_f1 hp) ?_
          refine e_2 rfl rfl ?_
          refine e_gaq (i := k) rfl (p_2 hp) (by decide) (by decide) (by first | rfl | (simp only [← nI_add, ← pk_mul]; rfl) | (simp only [nI_add, pk_mul, nI_1]; done)) (by omega) (by decide) (p_r2 hp (by omega)) ?_
          refine e_2 rfl rfl ?_
          refine e_v1 rfl (by first | exact p_0 hp | exact (p_tx hp hk).1) rfl (by decide) rfl (Nat.le_of_ble_eq_true rfl) (fa) ?_
          refine e_5 rfl rfl ?_
          refine e_2 rfl rfl ?_
          refine e_30 rfl (fun h2 => ?_) (fun h2 => ?_)
          · exact absurd h2 (by decide)
          · refine e_4 rfl rfl ?_
            refine e_2 rfl rfl ?_
            refine e_v1 rfl (by first | exact p_0 hp | exact (p_tx hp hk).1) rfl (by decide) rfl (Nat.le_of_ble_eq_true rfl) (evo (k_find (f := 2) hp (by decide) (by decide))) ?_
            exact e_ri rfl rfl (by rfl) (rfl)
        · exact absurd hb h1
    · rw [if_pos hz] at fa ⊢
      refine ⟨Nat.le_of_ble_eq_true rfl, ?_⟩
      refine e_2 rfl rfl ?_
      refine e_s1 rfl rfl rfl (Nat.le_of_ble_eq_true rfl) (k_isText _) ?_
      refine e_31b rfl (fun h1 => ?_) (fun h1 => ?_)
      · refine e_4 rfl rfl ?_
        refine e_gr rfl (p_0 hp) rfl (p_f1 hp) ?_
        refine e_2 rfl rfl ?_
        refine e_gaq (i := k) rfl (p_2 hp) (by decide) (by decide) (by first | rfl | (simp only [← nI_add, ← pk_mul]; rfl) | (simp only [nI_add, pk_mul, nI_1]; done)) (by omega) (by decide) (p_r2 hp (by omega)) ?_
        refine e_2 rfl rfl ?_
        refine e_v1 rfl (by first | exact p_0 hp | exact (p_tx hp hk).1) rfl (by decide) rfl (Nat.le_of_ble_eq_true rfl) (fa) ?_
        refine e_5 rfl rfl ?_
        refine e_2 rfl rfl ?_
        refine e_30 rfl (fun h2 => ?_) (fun h2 => ?_)
        · exact absurd h2 (by decide)
        · refine e_4 rfl rfl ?_
          refine e_2 rfl rfl ?_
          refine e_v1 rfl (by first | exact p_0 hp | exact (p_tx hp hk).1) rfl (by decide) rfl (Nat.le_of_ble_eq_true rfl) (evo (k_find (f := 1) hp (by decide) (by decide))) ?_
          exact e_ri rfl rfl (by rfl) (rfl)
      · exact absurd hb h1
  · rw [if_pos hb]
    refine ⟨Nat.le_of_ble_eq_true rfl, ?_⟩
    refine e_2 rfl rfl ?_
    refine e_s1 rfl rfl rfl (Nat.le_of_ble_eq_true rfl) (k_isText _) ?_
    refine e_31b rfl (fun h1 => ?_) (fun h1 => ?_)
    · exact absurd h1 hb
    · refine e_0 rfl ?_
      exact e_ri rfl rfl (by rfl) (rfl)
theorem kq_tear (hp : isPs μ) {r : Int32} {k : Nat} (hr : rowP r → r = nI k ∧ k < 6) : evI (ps_XX L xs) (d + 3) j_X7_tear [.ref 0, .int r] (μ) (if ¬ rowP r then (-1, μ) else if ¬ 0 ≤ ps_i μ (45 + 2 * k) 0 then (-3, FC μ 1) else (1, ps_sI μ (45 + 2 * k) 0 (-1))) := by
  refine ⟨Nat.le_of_ble_eq_true rfl, ?_⟩
  refine e_2 rfl rfl ?_
  refine e_s1 rfl rfl rfl (Nat.le_of_ble_eq_true rfl) (k_isRow _) ?_
  refine e_31b rfl (fun h1 => ?_) (fun h1 => ?_)
  · obtain ⟨rfl, hk⟩ := hr h1
    refine e_4 rfl rfl ?_
    refine e_gr rfl (p_0 hp) rfl (p_f0 hp) ?_
    refine e_2 rfl rfl ?_
    refine e_gaq (i := k) rfl (p_1 hp) (by decide) (by decide) (by first | rfl | (simp only [← nI_add, ← pk_mul]; rfl) | (simp only [nI_add, pk_mul, nI_1]; done)) (by omega) (by decide) (p_r1 hp (by omega)) ?_
    refine e_v0 rfl (by first | exact p_0 hp | exact (p_ro hp (k := k) (by omega)).1 | exact (p_ro hp (k := t) (by omega)).1) rfl (by decide) rfl (Nat.le_of_ble_eq_true rfl) (kr_isMissing (p_ro hp hk)) ?_
    refine e_30b rfl (fun h2 => ?_) (fun h2 => ?_)
    · refine e_4 rfl rfl ?_
      refine e_gr rfl (p_0 hp) rfl (p_f0 hp) ?_
      refine e_2 rfl rfl ?_
      refine e_gaq (i := k) rfl (p_1 hp) (by decide) (by decide) (by first | rfl | (simp only [← nI_add, ← pk_mul]; rfl) | (simp only [nI_add, pk_mul, nI_1]; done)) (by omega) (by decide) (p_r1 hp (by omega)) ?_
      refine e_0 rfl ?_
      refine e_pi rfl (p_ro hp (k := k) (by omega)).1 rfl (Or.inl rfl) ?_
      refine e_0 rfl ?_
      exact e_ri rfl rfl (by first | (simp only [eq_true h1, eq_false h2, if_true, if_true, if_false, not_true_eq_false, not_false_eq_true, and_true, true_and, and_false, false_and, or_true, true_or, or_false, false_or, reduceIte]; done) | (simp only [eq_true h1, eq_false h2, if_true, if_true, if_false, not_true_eq_false, not_false_eq_true, and_true, true_and, and_false, false_and, or_true, true_or, or_false, false_or, reduceIte]; rfl) | rfl) (by first | (simp only [eq_true h1, eq_false h2, if_true, if_true, if_false, not_true_eq_false, not_false_eq_true, and_true, true_and, and_false, false_and, or_true, true_or, or_false, false_or, reduceIte]; done) | (simp only [eq_true h1, eq_false h2, if_true, if_true, if_false, not_true_eq_false, not_false_eq_true, and_true, true_and, and_false, false_and, or_true, true_or, or_false, false_or, reduceIte]; rfl) | rfl)
    · refine e_4 rfl rfl ?_
      refine e_0 rfl ?_
      refine e_v1 rfl (by first | exact p_0 hp | exact (p_ro hp (k := k) (by omega)).1 | exact (p_ro hp (k := t) (by omega)).1) rfl (by decide) rfl (Nat.le_of_ble_eq_true rfl) (evo (k_find (f := 1) hp (by decide) (by decide))) ?_
      exact e_ri rfl rfl (by first | (simp only [eq_true h1, eq_true h2, if_true, if_true, if_false, not_true_eq_false, not_false_eq_true, and_true, true_and, and_false, false_and, or_true, true_or, or_false, false_or, reduceIte]; done) | (simp only [eq_true h1, eq_true h2, if_true, if_true, if_false, not_true_eq_false, not_false_eq_true, and_true, true_and, and_false, false_and, or_true, true_or, or_false, false_or, reduceIte]; rfl) | rfl) (by first | (simp only [eq_true h1, eq_true h2, if_true, if_true, if_false, not_true_eq_false, not_false_eq_true, and_true, true_and, and_false, false_and, or_true, true_or, or_false, false_or, reduceIte]; done) | (simp only [eq_true h1, eq_true h2, if_true, if_true, if_false, not_true_eq_false, not_false_eq_true, and_true, true_and, and_false, false_and, or_true, true_or, or_false, false_or, reduceIte]; rfl) | rfl)
  · refine e_0 rfl ?_
    exact e_ri rfl rfl (by first | (simp only [eq_false h1, if_true, if_true, if_false, not_true_eq_false, not_false_eq_true, and_true, true_and, and_false, false_and, or_true, true_or, or_false, false_or, reduceIte]; done) | (simp only [eq_false h1, if_true, if_true, if_false, not_true_eq_false, not_false_eq_true, and_true, true_and, and_false, false_and, or_true, true_or, or_false, false_or, reduceIte]; rfl) | rfl) (by first | (simp only [eq_false h1, if_true, if_true, if_false, not_true_eq_false, not_false_eq_true, and_true, true_and, and_false, false_and, or_true, true_or, or_false, false_or, reduceIte]; done) | (simp only [eq_false h1, if_true, if_true, if_false, not_true_eq_false, not_false_eq_true, and_true, true_and, and_false, false_and, or_true, true_or, or_false, false_or, reduceIte]; rfl) | rfl)
theorem kq_mean (hp : isPs μ) {r : Int32} {k : Nat} (hr : rowP r → r = nI k ∧ k < 6) {S : Nat} (hS : 0 ≤ ps_i μ (45 + 2 * k) 0 → ps_i μ (45 + 2 * k) 0 = nI S ∧ S ≤ 40) : evI (ps_XX L xs) (d + 3) j_X7_mean [.ref 0, .int r] (μ) (if ¬ rowP r then (-1, μ) else if ¬ 0 ≤ ps_i μ (45 + 2 * k) 0 then (-3, FC μ 1) else if ps_i μ (45 + 2 * k) 0 = 0 then (-3, FC μ 4) else (1, ps_sI μ 0 11 (lsum (ps_i μ (45 + 2 * k + 1)) S / (nI S).toInt64).toInt32)) := by
  refine ⟨Nat.le_of_ble_eq_true rfl, ?_⟩
  refine e_2 rfl rfl ?_
  refine e_s1 rfl rfl rfl (Nat.le_of_ble_eq_true rfl) (k_isRow _) ?_
  refine e_31b rfl (fun h1 => ?_) (fun h1 => ?_)
  · obtain ⟨rfl, hk⟩ := hr h1
    refine e_4 rfl rfl ?_
    refine e_gr rfl (p_0 hp) rfl (p_f0 hp) ?_
    refine e_2 rfl rfl ?_
    refine e_gaq (i := k) rfl (p_1 hp) (by decide) (by decide) (by first | rfl | (simp only [← nI_add, ← pk_mul]; rfl) | (simp only [nI_add, pk_mul, nI_1]; done)) (by omega) (by decide) (p_r1 hp (by omega)) ?_
    refine e_7 rfl rfl ?_
    refine e_4 rfl rfl ?_
    refine e_v0 rfl (by first | exact p_0 hp | exact (p_ro hp (k := k) (by omega)).1 | exact (p_ro hp (k := t) (by omega)).1) rfl (by decide) rfl (Nat.le_of_ble_eq_true rfl) (kr_isMissing (p_ro hp hk)) ?_
    refine e_30b rfl (fun h2 => ?_) (fun h2 => ?_)
    · obtain ⟨eS, hS40⟩ := hS (Classical.not_not.mp h2)
      refine e_4 rfl rfl ?_
      refine e_gi rfl (p_ro hp (k := k) (by omega)).1 rfl (by decide) ?_
      refine e_31 rfl (fun h3 => ?_) (fun h3 => ?_)
      · refine e_4 rfl rfl ?_
        refine e_4 rfl rfl ?_
        refine e_v0 rfl (by first | exact p_0 hp | exact (p_ro hp (k := k) (by omega)).1 | exact (p_ro hp (k := t) (by omega)).1) rfl (by decide) rfl (Nat.le_of_ble_eq_true rfl) (kr_sum (p_ro hp hk) eS hS40) ?_
        refine e_4 rfl rfl ?_
        refine e_gi rfl (p_ro hp (k := k) (by omega)).1 rfl (by decide) ?_
        have h2b := h2
        rw [eS] at h2b h3 ⊢
        refine e_25 rfl ?_
        refine e_22 rfl (by rw [nI_l (by omega)]; exact fun z => h3 (by rw [(pk_lEQ (b := 0) (by omega) (by omega)).mp z]; rfl)) ?_
        refine e_26 rfl ?_
        refine e_pi rfl (p_0 hp) rfl (Or.inl rfl) ?_
        refine e_0 rfl ?_
        exact e_ri rfl rfl (by first | (simp only [eq_false h2b, eq_true h1, eq_false h2, eq_false h3, if_true, if_true, if_false, not_true_eq_false, not_false_eq_true]; done) | first | (simp only [eq_true h1, eq_false h2, eq_false h3, if_true, if_true, if_false, not_true_eq_false, not_false_eq_true, and_true, true_and, and_false, false_and, or_true, true_or, or_false, false_or, reduceIte]; done) | (simp only [eq_true h1, eq_false h2, eq_false h3, if_true, if_true, if_false, not_true_eq_false, not_false_eq_true, and_true, true_and, and_false, false_and, or_true, true_or, or_false, false_or, reduceIte]; rfl) | rfl) (by first | (simp only [eq_false h2b, eq_true h1, eq_false h2, eq_false h3, if_true, if_true, if_false, not_true_eq_false, not_false_eq_true]; done) | first | (simp only [eq_true h1, eq_false h2, eq_false h3, if_true, if_true, if_false, not_true_eq_false, not_false_eq_true, and_true, true_and, and_false, false_and, or_true, true_or, or_false, false_or, reduceIte]; done) | (simp only [eq_true h1, eq_false h2, eq_false h3, if_true, if_true, if_false, not_true_eq_false, not_false_eq_true, and_true, true_and, and_false, false_and, or_true, true_or, or_false, false_or, reduceIte]; rfl) | rfl)
      · refine e_4 rfl rfl ?_
        refine e_0 rfl ?_
        refine e_v1 rfl (by first | exact p_0 hp | exact (p_ro hp (k := k) (by omega)).1 | exact (p_ro hp (k := t) (by omega)).1) rfl (by decide) rfl (Nat.le_of_ble_eq_true rfl) (evo (k_find (f := 4) hp (by decide) (by decide))) ?_
        exact e_ri rfl rfl (by first | (simp only [eq_false h2b, eq_true h1, eq_false h2, eq_true h3, if_true, if_true, if_false, not_true_eq_false, not_false_eq_true]; done) | first | (simp only [eq_true h1, eq_false h2, eq_true h3, if_true, if_true, if_false, not_true_eq_false, not_false_eq_true, and_true, true_and, and_false, false_and, or_true, true_or, or_false, false_or, reduceIte]; done) | (simp only [eq_true h1, eq_false h2, eq_true h3, if_true, if_true, if_false, not_true_eq_false, not_false_eq_true, and_true, true_and, and_false, false_and, or_true, true_or, or_false, false_or, reduceIte]; rfl) | rfl) (by first | (simp only [eq_false h2b, eq_true h1, eq_false h2, eq_true h3, if_true, if_true, if_false, not_true_eq_false, not_false_eq_true]; done) | first | (simp only [eq_true h1, eq_false h2, eq_true h3, if_true, if_true, if_false, not_true_eq_false, not_false_eq_true, and_true, true_and, and_false, false_and, or_true, true_or, or_false, false_or, reduceIte]; done) | (simp only [eq_true h1, eq_false h2, eq_true h3, if_true, if_true, if_false, not_true_eq_false, not_false_eq_true, and_true, true_and, and_false, false_and, or_true, true_or, or_false, false_or, reduceIte]; rfl) | rfl)
    · refine e_4 rfl rfl ?_
      refine e_0 rfl ?_
      refine e_v1 rfl (by first | exact p_0 hp | exact (p_ro hp (k := k) (by omega)).1 | exact (p_ro hp (k := t) (by omega)).1) rfl (by decide) rfl (Nat.le_of_ble_eq_true rfl) (evo (k_find (f := 1) hp (by decide) (by decide))) ?_
      exact e_ri rfl rfl (by first | (simp only [eq_false h2b, eq_true h1, eq_true h2, if_true, if_true, if_false, not_true_eq_false, not_false_eq_true]; done) | first | (simp only [eq_true h1, eq_true h2, if_true, if_true, if_false, not_true_eq_false, not_false_eq_true, and_true, true_and, and_false, false_and, or_true, true_or, or_false, false_or, reduceIte]; done) | (simp only [eq_true h1, eq_true h2, if_true, if_true, if_false, not_true_eq_false, not_false_eq_true, and_true, true_and, and_false, false_and, or_true, true_or, or_false, false_or, reduceIte]; rfl) | rfl) (by first | (simp only [eq_false h2b, eq_true h1, eq_true h2, if_true, if_true, if_false, not_true_eq_false, not_false_eq_true]; done) | first | (simp only [eq_true h1, eq_true h2, if_true, if_true, if_false, not_true_eq_false, not_false_eq_true, and_true, true_and, and_false, false_and, or_true, true_or, or_false, false_or, reduceIte]; done) | (simp only [eq_true h1, eq_true h2, if_true, if_true, if_false, not_true_eq_false, not_false_eq_true, and_true, true_and, and_false, false_and, or_true, true_or, or_false, false_or, reduceIte]; rfl) | rfl)
  · refine e_0 rfl ?_
    exact e_ri rfl rfl (by first | (simp only [eq_false h2b, eq_false h1, if_true, if_true, if_false, not_true_eq_false, not_false_eq_true]; done) | first | (simp only [eq_false h1, if_true, if_true, if_false, not_true_eq_false, not_false_eq_true, and_true, true_and, and_false, false_and, or_true, true_or, or_false, false_or, reduceIte]; done) | (simp only [eq_false h1, if_true, if_true, if_false, not_true_eq_false, not_false_eq_true, and_true, true_and, and_false, false_and, or_true, true_or, or_false, false_or, reduceIte]; rfl) | rfl) (by first | (simp only [eq_false h2b, eq_false h1, if_true, if_true, if_false, not_true_eq_false, not_false_eq_true]; done) | first | (simp only [eq_false h1, if_true, if_true, if_false, not_true_eq_false, not_false_eq_true, and_true, true_and, and_false, false_and, or_true, true_or, or_false, false_or, reduceIte]; done) | (simp only [eq_false h1, if_true, if_true, if_false, not_true_eq_false, not_false_eq_true, and_true, true_and, and_false, false_and, or_true, true_or, or_false, false_or, reduceIte]; rfl) | rfl)
theorem kq_gains (hp : isPs μ) {r : Int32} {k : Nat} (hr : rowP r → r = nI k ∧ k < 6) {S : Nat} (hS : 0 ≤ ps_i μ (45 + 2 * k) 0 → ps_i μ (45 + 2 * k) 0 = nI S ∧ S ≤ 40) : evI (ps_XX L xs) (d + 3) j_X7_gains [.ref 0, .int r] (μ) (if ¬ rowP r then (-1, μ) else if ¬ 0 ≤ ps_i μ (45 + 2 * k) 0 then (-3, FC μ 1) else if ¬ 2 ≤ ps_i μ (45 + 2 * k) 0 then (-3, FC μ 5) else if lg_cmp ((ps_i μ (45 + 2 * k + 1) (S - 1)).toInt64 - (ps_i μ (45 + 2 * k + 1) 0).toInt64) 2 ≤ 0 then (if 0 ≤ lg_cmp ((ps_i μ (45 + 2 * k + 1) (S - 1)).toInt64 - (ps_i μ (45 + 2 * k + 1) 0).toInt64) (-2) then (0, μ) else (2, μ)) else (1, μ)) := by
  refine ⟨Nat.le_of_ble_eq_true rfl, ?_⟩
  refine e_2 rfl rfl ?_
  refine e_s1 rfl rfl rfl (Nat.le_of_ble_eq_true rfl) (k_isRow _) ?_
  refine e_31b rfl (fun h1 => ?_) (fun h1 => ?_)
  · obtain ⟨rfl, hk⟩ := hr h1
    refine e_4 rfl rfl ?_
    refine e_gr rfl (p_0 hp) rfl (p_f0 hp) ?_
    refine e_2 rfl rfl ?_
    refine e_gaq (i := k) rfl (p_1 hp) (by decide) (by decide) (by first | rfl | (simp only [← nI_add, ← pk_mul]; rfl) | (simp only [nI_add, pk_mul, nI_1]; done)) (by omega) (by decide) (p_r1 hp (by omega)) ?_
    refine e_7 rfl rfl ?_
    refine e_4 rfl rfl ?_
    refine e_v0 rfl (by first | exact p_0 hp | exact (p_ro hp (k := k) (by omega)).1 | exact (p_ro hp (k := t) (by omega)).1) rfl (by decide) rfl (Nat.le_of_ble_eq_true rfl) (kr_isMissing (p_ro hp hk)) ?_
    refine e_30b rfl (fun h2 => ?_) (fun h2 => ?_)
    · obtain ⟨eS, hS40⟩ := hS (Classical.not_not.mp h2)
      refine e_4 rfl rfl ?_
      refine e_gi rfl (p_ro hp (k := k) (by omega)).1 rfl (by decide) ?_
      refine e_0 rfl ?_
      refine e_39 rfl (fun h3 => ?_) (fun h3 => ?_)
      · have hS2 : 2 ≤ S := by
          have h3 := h3
          rw [eS] at h3
          exact (nI_leI (a := 2) (by omega) (by omega)).mp h3
        refine e_4 rfl rfl ?_
        refine e_gr rfl (p_ro hp (k := k) (by omega)).1 rfl (p_ro hp (k := k) (by omega)).2.2 ?_
        refine e_4 rfl rfl ?_
        refine e_gi rfl (p_ro hp (k := k) (by omega)).1 rfl (by decide) ?_
        refine e_0 rfl ?_
        refine e_10 rfl ?_
        refine e_48q (i := (S - 1)) rfl (p_ro hp (k := k) (by omega)).2.1 (by rw [eS]; exact pk_sub (b := 1) (by omega)) (by omega) (by decide) ?_
        refine e_25 rfl ?_
        refine e_4 rfl rfl ?_
        refine e_gr rfl (p_ro hp (k := k) (by omega)).1 rfl (p_ro hp (k := k) (by omega)).2.2 ?_
        refine e_0 rfl ?_
        refine e_48q (i := 0) rfl (p_ro hp (k := k) (by omega)).2.1 (by first | rfl | (simp only [← nI_add, ← pk_mul]; rfl) | (simp only [nI_add, pk_mul, nI_1]; done)) (by omega) (by decide) ?_
        refine e_25 rfl ?_
        refine e_20 rfl ?_
        refine e_6 rfl rfl ?_
        refine e_3 rfl rfl ?_
        refine e_1 rfl ?_
        refine e_24 rfl ?_
        refine e_35 rfl (fun h4 => ?_) (fun h4 => ?_)
        · refine e_3 rfl rfl ?_
          refine e_1 rfl ?_
          refine e_24 rfl ?_
          refine e_33 rfl (fun h5 => ?_) (fun h5 => ?_)
          · refine e_0 rfl ?_
            exact e_ri rfl rfl (by first | (simp only [eq_true h1, eq_false h2, eq_true h3, eq_true h4, eq_true h5, if_true, if_true, if_false, not_true_eq_false, not_false_eq_true, and_true, true_and, and_false, false_and, or_true, true_or, or_false, false_or, reduceIte]; done) | (simp only [eq_true h1, eq_false h2, eq_true h3, eq_true h4, eq_true h5, if_true, if_true, if_false, not_true_eq_false, not_false_eq_true, and_true, true_and, and_false, false_and, or_true, true_or, or_false, false_or, reduceIte]; rfl) | rfl) (by first | (simp only [eq_true h1, eq_false h2, eq_true h3, eq_true h4, eq_true h5, if_true, if_true, if_false, not_true_eq_false, not_false_eq_true, and_true, true_and, and_false, false_and, or_true, true_or, or_false, false_or, reduceIte]; done) | (simp only [eq_true h1, eq_false h2, eq_true h3, eq_true h4, eq_true h5, if_true, if_true, if_false, not_true_eq_false, not_false_eq_true, and_true, true_and, and_false, false_and, or_true, true_or, or_false, false_or, reduceIte]; rfl) | rfl)
          · refine e_0 rfl ?_
            refine e_42 rfl ?_
            exact e_ri rfl rfl (by first | (simp only [eq_true h1, eq_false h2, eq_true h3, eq_true h4, eq_false h5, if_true, if_true, if_false, not_true_eq_false, not_false_eq_true, and_true, true_and, and_false, false_and, or_true, true_or, or_false, false_or, reduceIte]; done) | (simp only [eq_true h1, eq_false h2, eq_true h3, eq_true h4, eq_false h5, if_true, if_true, if_false, not_true_eq_false, not_false_eq_true, and_true, true_and, and_false, false_and, or_true, true_or, or_false, false_or, reduceIte]; rfl) | rfl) (by first | (simp only [eq_true h1, eq_false h2, eq_true h3, eq_true h4, eq_false h5, if_true, if_true, if_false, not_true_eq_false, not_false_eq_true, and_true, true_and, and_false, false_and, or_true, true_or, or_false, false_or, reduceIte]; done) | (simp only [eq_true h1, eq_false h2, eq_true h3, eq_true h4, eq_false h5, if_true, if_true, if_false, not_true_eq_false, not_false_eq_true, and_true, true_and, and_false, false_and, or_true, true_or, or_false, false_or, reduceIte]; rfl) | rfl)
        · refine e_0 rfl ?_
          exact e_ri rfl rfl (by first | (simp only [eq_true h1, eq_false h2, eq_true h3, eq_false h4, if_true, if_true, if_false, not_true_eq_false, not_false_eq_true, and_true, true_and, and_false, false_and, or_true, true_or, or_false, false_or, reduceIte]; done) | (simp only [eq_true h1, eq_false h2, eq_true h3, eq_false h4, if_true, if_true, if_false, not_true_eq_false, not_false_eq_true, and_true, true_and, and_false, false_and, or_true, true_or, or_false, false_or, reduceIte]; rfl) | rfl) (by first | (simp only [eq_true h1, eq_false h2, eq_true h3, eq_false h4, if_true, if_true, if_false, not_true_eq_false, not_false_eq_true, and_true, true_and, and_false, false_and, or_true, true_or, or_false, false_or, reduceIte]; done) | (simp only [eq_true h1, eq_false h2, eq_true h3, eq_false h4, if_true, if_true, if_false, not_true_eq_false, not_false_eq_true, and_true, true_and, and_false, false_and, or_true, true_or, or_false, false_or, reduceIte]; rfl) | rfl)
      · refine e_4 rfl rfl ?_
        refine e_0 rfl ?_
        refine e_v1 rfl (by first | exact p_0 hp | exact (p_ro hp (k := k) (by omega)).1 | exact (p_ro hp (k := t) (by omega)).1) rfl (by decide) rfl (Nat.le_of_ble_eq_true rfl) (evo (k_find (f := 5) hp (by decide) (by decide))) ?_
        exact e_ri rfl rfl (by first | (simp only [eq_true h1, eq_false h2, eq_false h3, if_true, if_true, if_false, not_true_eq_false, not_false_eq_true, and_true, true_and, and_false, false_and, or_true, true_or, or_false, false_or, reduceIte]; done) | (simp only [eq_true h1, eq_false h2, eq_false h3, if_true, if_true, if_false, not_true_eq_false, not_false_eq_true, and_true, true_and, and_false, false_and, or_true, true_or, or_false, false_or, reduceIte]; rfl) | rfl) (by first | (simp only [eq_true h1, eq_false h2, eq_false h3, if_true, if_true, if_false, not_true_eq_false, not_false_eq_true, and_true, true_and, and_false, false_and, or_true, true_or, or_false, false_or, reduceIte]; done) | (simp only [eq_true h1, eq_false h2, eq_false h3, if_true, if_true, if_false, not_true_eq_false, not_false_eq_true, and_true, true_and, and_false, false_and, or_true, true_or, or_false, false_or, reduceIte]; rfl) | rfl)
    · refine e_4 rfl rfl ?_
      refine e_0 rfl ?_
      refine e_v1 rfl (by first | exact p_0 hp | exact (p_ro hp (k := k) (by omega)).1 | exact (p_ro hp (k := t) (by omega)).1) rfl (by decide) rfl (Nat.le_of_ble_eq_true rfl) (evo (k_find (f := 1) hp (by decide) (by decide))) ?_
      exact e_ri rfl rfl (by first | (simp only [eq_true h1, eq_true h2, if_true, if_true, if_false, not_true_eq_false, not_false_eq_true, and_true, true_and, and_false, false_and, or_true, true_or, or_false, false_or, reduceIte]; done) | (simp only [eq_true h1, eq_true h2, if_true, if_true, if_false, not_true_eq_false, not_false_eq_true, and_true, true_and, and_false, false_and, or_true, true_or, or_false, false_or, reduceIte]; rfl) | rfl) (by first | (simp only [eq_true h1, eq_true h2, if_true, if_true, if_false, not_true_eq_false, not_false_eq_true, and_true, true_and, and_false, false_and, or_true, true_or, or_false, false_or, reduceIte]; done) | (simp only [eq_true h1, eq_true h2, if_true, if_true, if_false, not_true_eq_false, not_false_eq_true, and_true, true_and, and_false, false_and, or_true, true_or, or_false, false_or, reduceIte]; rfl) | rfl)
  · refine e_0 rfl ?_
    exact e_ri rfl rfl (by first | (simp only [eq_false h1, if_true, if_true, if_false, not_true_eq_false, not_false_eq_true, and_true, true_and, and_false, false_and, or_true, true_or, or_false, false_or, reduceIte]; done) | (simp only [eq_false h1, if_true, if_true, if_false, not_true_eq_false, not_false_eq_true, and_true, true_and, and_false, false_and, or_true, true_or, or_false, false_or, reduceIte]; rfl) | rfl) (by first | (simp only [eq_false h1, if_true, if_true, if_false, not_true_eq_false, not_false_eq_true, and_true, true_and, and_false, false_and, or_true, true_or, or_false, false_or, reduceIte]; done) | (simp only [eq_false h1, if_true, if_true, if_false, not_true_eq_false, not_false_eq_true, and_true, true_and, and_false, false_and, or_true, true_or, or_false, false_or, reduceIte]; rfl) | rfl)
theorem kq_copy (hp : isPs μ) {r : Int32} {k : Nat} (hr : rowP r → r = nI k ∧ k < 6) {to : Int32} {t : Nat} (hr2 : rowP to → to = nI t ∧ t < 6) {i j n : Int32} {a b N S T : Nat} (hS : 0 ≤ ps_i μ (45 + 2 * k) 0 → ps_i μ (45 + 2 * k) 0 = nI S ∧ S ≤ 40) (hT : 0 ≤ ps_i μ (45 + 2 * t) 0 → ps_i μ (45 + 2 * t) 0 = nI T ∧ T ≤ 40) (hs : 0 ≤ n → spanP i n (ps_i μ (45 + 2 * k) 0) → spanP j n (ps_i μ (45 + 2 * t) 0) → n = nI N ∧ i = nI a ∧ j = nI b ∧ a + N ≤ 40 ∧ b + N ≤ 40) : evI (ps_XX L xs) (d + 3) j_X7_copy [.ref 0, .int r, .int i, .int to, .int j, .int n] (μ) (if ¬ rowP r ∨ ¬ rowP to then (-1, μ) else if ¬ 0 ≤ n then (-3, FC μ 5) else if ¬ 0 ≤ ps_i μ (45 + 2 * k) 0 ∨ ¬ 0 ≤ ps_i μ (45 + 2 * t) 0 then (-3, FC μ 1) else if ¬ spanP i n (ps_i μ (45 + 2 * k) 0) ∨ ¬ spanP j n (ps_i μ (45 + 2 * t) 0) then (-3, FC μ 2) else (1, ps_cp μ (45 + 2 * k + 1) a (45 + 2 * t + 1) b N)) := by
  refine ⟨Nat.le_of_ble_eq_true rfl, ?_⟩
  refine e_2 rfl rfl ?_
  refine e_s1 rfl rfl rfl (Nat.le_of_ble_eq_true rfl) (k_isRow _) ?_
  refine e_30b rfl (fun h1 => ?_) (fun h1 => ?_)
  · refine e_0 rfl ?_
    exact e_ri rfl rfl (by first | (simp only [eq_false h1, if_true, if_true, if_false, not_true_eq_false, not_false_eq_true, and_true, true_and, and_false, false_and, or_true, true_or, or_false, false_or, reduceIte]; done) | (simp only [eq_false h1, if_true, if_true, if_false, not_true_eq_false, not_false_eq_true, and_true, true_and, and_false, false_and, or_true, true_or, or_false, false_or, reduceIte]; rfl) | rfl) (by first | (rw [nI_clamp (by omega), nI_clamp (by omega), nI_clamp (by omega)]; simp only [eq_false h1, if_true, if_true, if_false, not_true_eq_false, not_false_eq_true, or_false, or_true, false_or, true_or]; done) | first | (simp only [eq_false h1, if_true, if_true, if_false, not_true_eq_false, not_false_eq_true, and_true, true_and, and_false, false_and, or_true, true_or, or_false, false_or, reduceIte]; done) | (simp only [eq_false h1, if_true, if_true, if_false, not_true_eq_false, not_false_eq_true, and_true, true_and, and_false, false_and, or_true, true_or, or_false, false_or, reduceIte]; rfl) | rfl)
  · refine e_2 rfl rfl ?_
    refine e_s1 rfl rfl rfl (Nat.le_of_ble_eq_true rfl) (k_isRow _) ?_
    refine e_31b rfl (fun h2 => ?_) (fun h2 => ?_)
    · obtain ⟨rfl, hk⟩ := hr h1
      obtain ⟨rfl, ht⟩ := hr2 h2
      refine e_2 rfl rfl ?_
      refine e_33 rfl (fun h3 => ?_) (fun h3 => ?_)
      · refine e_4 rfl rfl ?_
        refine e_gr rfl (p_0 hp) rfl (p_f0 hp) ?_
        refine e_2 rfl rfl ?_
        refine e_gaq (i := k) rfl (p_1 hp) (by decide) (by decide) (by first | rfl | (simp only [← nI_add, ← pk_mul]; rfl) | (simp only [nI_add, pk_mul, nI_1]; done)) (by omega) (by decide) (p_r1 hp (by omega)) ?_
        refine e_7 rfl rfl ?_
        refine e_4 rfl rfl ?_
        refine e_gr rfl (p_0 hp) rfl (p_f0 hp) ?_
        refine e_2 rfl rfl ?_
        refine e_gaq (i := t) rfl (p_1 hp) (by decide) (by decide) (by first | rfl | (simp only [← nI_add, ← pk_mul]; rfl) | (simp only [nI_add, pk_mul, nI_1]; done)) (by omega) (by decide) (p_r1 hp (by omega)) ?_
        refine e_7 rfl rfl ?_
        refine e_4 rfl rfl ?_
        refine e_v0 rfl (by first | exact p_0 hp | exact (p_ro hp hk).1 | exact (p_ro hp ht).1 | exact (p_ro hp hk).2.1 | exact (p_ro hp ht).2.1) rfl (by decide) rfl (Nat.le_of_ble_eq_true rfl) (kr_isMissing (p_ro hp hk)) ?_
        refine e_31b rfl (fun h4 => ?_) (fun h4 => ?_)
        · refine e_4 rfl rfl ?_
          refine e_0 rfl ?_
          refine e_v1 rfl (by first | exact p_0 hp | exact (p_ro hp hk).1 | exact (p_ro hp ht).1 | exact (p_ro hp hk).2.1 | exact (p_ro hp ht).2.1) rfl (by decide) rfl (Nat.le_of_ble_eq_true rfl) (evo (k_find (f := 1) hp (by decide) (by decide))) ?_
          exact e_ri rfl rfl (by first | (simp only [eq_true h1, eq_true h2, eq_true h3, eq_true h4, if_true, if_true, if_false, not_true_eq_false, not_false_eq_true, and_true, true_and, and_false, false_and, or_true, true_or, or_false, false_or, reduceIte]; done) | (simp only [eq_true h1, eq_true h2, eq_true h3, eq_true h4, if_true, if_true, if_false, not_true_eq_false, not_false_eq_true, and_true, true_and, and_false, false_and, or_true, true_or, or_false, false_or, reduceIte]; rfl) | rfl) (by first | (rw [nI_clamp (by omega), nI_clamp (by omega), nI_clamp (by omega)]; simp only [eq_true h1, eq_true h2, eq_true h3, eq_true h4, if_true, if_true, if_false, not_true_eq_false, not_false_eq_true, or_false, or_true, false_or, true_or]; done) | first | (simp only [eq_true h1, eq_true h2, eq_true h3, eq_true h4, if_true, if_true, if_false, not_true_eq_false, not_false_eq_true, and_true, true_and, and_false, false_and, or_true, true_or, or_false, false_or, reduceIte]; done) | (simp only [eq_true h1, eq_true h2, eq_true h3, eq_true h4, if_true, if_true, if_false, not_true_eq_false, not_false_eq_true, and_true, true_and, and_false, false_and, or_true, true_or, or_false, false_or, reduceIte]; rfl) | rfl)
        · refine e_4 rfl rfl ?_
          refine e_v0 rfl (by first | exact p_0 hp | exact (p_ro hp hk).1 | exact (p_ro hp ht).1 | exact (p_ro hp hk).2.1 | exact (p_ro hp ht).2.1) rfl (by decide) rfl (Nat.le_of_ble_eq_true rfl) (kr_isMissing (p_ro hp ht)) ?_
          refine e_30b rfl (fun h5 => ?_) (fun h5 => ?_)
          · refine e_4 rfl rfl ?_
            refine e_2 rfl rfl ?_
            refine e_2 rfl rfl ?_
            refine e_v2 rfl (by first | exact p_0 hp | exact (p_ro hp hk).1 | exact (p_ro hp ht).1 | exact (p_ro hp hk).2.1 | exact (p_ro hp ht).2.1) rfl (by decide) rfl (Nat.le_of_ble_eq_true rfl) (kr_hasRun (p_ro hp hk) (hS (Classical.not_not.mp h4)).1 (hS (Classical.not_not.mp h4)).2 (Int32.not_lt.mpr h3)) ?_
            refine e_30b rfl (fun h6 => ?_) (fun h6 => ?_)
            · refine e_4 rfl rfl ?_
              refine e_0 rfl ?_
              refine e_v1 rfl (by first | exact p_0 hp | exact (p_ro hp hk).1 | exact (p_ro hp ht).1 | exact (p_ro hp hk).2.1 | exact (p_ro hp ht).2.1) rfl (by decide) rfl (Nat.le_of_ble_eq_true rfl) (evo (k_find (f := 2) hp (by decide) (by decide))) ?_
              exact e_ri rfl rfl (by first | (simp only [eq_true h1, eq_true h2, eq_true h3, eq_false h4, eq_false h5, eq_false h6, if_true, if_true, if_false, not_true_eq_false, not_false_eq_true, and_true, true_and, and_false, false_and, or_true, true_or, or_false, false_or, reduceIte]; done) | (simp only [eq_true h1, eq_true h2, eq_true h3, eq_false h4, eq_false h5, eq_false h6, if_true, if_true, if_false, not_true_eq_false, not_false_eq_true, and_true, true_and, and_false, false_and, or_true, true_or, or_false, false_or, reduceIte]; rfl) | rfl) (by first | (rw [nI_clamp (by omega), nI_clamp (by omega), nI_clamp (by omega)]; simp only [eq_true h1, eq_true h2, eq_true h3, eq_false h4, eq_false h5, eq_false h6, if_true, if_true, if_false, not_true_eq_false, not_false_eq_true, or_false, or_true, false_or, true_or]; done) | first | (simp only [eq_true h1, eq_true h2, eq_true h3, eq_false h4, eq_false h5, eq_false h6, if_true, if_true, if_false, not_true_eq_false, not_false_eq_true, and_true, true_and, and_false, false_and, or_true, true_or, or_false, false_or, reduceIte]; done) | (simp only [eq_true h1, eq_true h2, eq_true h3, eq_false h4, eq_false h5, eq_false h6, if_true, if_true, if_false, not_true_eq_false, not_false_eq_true, and_true, true_and, and_false, false_and, or_true, true_or, or_false, false_or, reduceIte]; rfl) | rfl)
            · refine e_4 rfl rfl ?_
              refine e_2 rfl rfl ?_
              refine e_2 rfl rfl ?_
              refine e_v2 rfl (by first | exact p_0 hp | exact (p_ro hp hk).1 | exact (p_ro hp ht).1 | exact (p_ro hp hk).2.1 | exact (p_ro hp ht).2.1) rfl (by decide) rfl (Nat.le_of_ble_eq_true rfl) (kr_hasRun (p_ro hp ht) (hT (Classical.not_not.mp h5)).1 (hT (Classical.not_not.mp h5)).2 (Int32.not_lt.mpr h3)) ?_
              refine e_31b rfl (fun h7 => ?_) (fun h7 => ?_)
              · obtain ⟨rfl, rfl, rfl, haN, hbN⟩ := hs h3 h6 h7
                refine e_4 rfl rfl ?_
                refine e_gr rfl (p_ro hp (k := k) (by omega)).1 rfl (p_ro hp (k := k) (by omega)).2.2 ?_
                refine e_2 rfl rfl ?_
                refine e_4 rfl rfl ?_
                refine e_gr rfl (p_ro hp (k := t) (by omega)).1 rfl (p_ro hp (k := t) (by omega)).2.2 ?_
                refine e_2 rfl rfl ?_
                refine e_2 rfl rfl ?_
                refine e_62 rfl (by first | exact p_0 hp | exact (p_ro hp hk).1 | exact (p_ro hp ht).1 | exact (p_ro hp hk).2.1 | exact (p_ro hp ht).2.1) (by first | exact p_0 hp | exact (p_ro hp hk).1 | exact (p_ro hp ht).1 | exact (p_ro hp hk).2.1 | exact (p_ro hp ht).2.1) (nI_pos (by omega)) (nI_pos (by omega)) (nI_pos (by omega)) (by rw [nI_clamp (by omega), nI_clamp (by omega)]; exact haN) (by rw [nI_clamp (by omega), nI_clamp (by omega)]; exact hbN) (Nat.le_of_ble_eq_true rfl) ?_
                refine e_0 rfl ?_
                exact e_ri rfl rfl (by first | (simp only [eq_true h1, eq_true h2, eq_true h3, eq_false h4, eq_false h5, eq_true h6, eq_true h7, if_true, if_true, if_false, not_true_eq_false, not_false_eq_true, and_true, true_and, and_false, false_and, or_true, true_or, or_false, false_or, reduceIte]; done) | (simp only [eq_true h1, eq_true h2, eq_true h3, eq_false h4, eq_false h5, eq_true h6, eq_true h7, if_true, if_true, if_false, not_true_eq_false, not_false_eq_true, and_true, true_and, and_false, false_and, or_true, true_or, or_false, false_or, reduceIte]; rfl) | rfl) (by first | (rw [nI_clamp (by omega), nI_clamp (by omega), nI_clamp (by omega)]; simp only [eq_true h1, eq_true h2, eq_true h3, eq_false h4, eq_false h5, eq_true h6, eq_true h7, if_true, if_true, if_false, not_true_eq_false, not_false_eq_true, or_false, or_true, false_or, true_or]; done) | first | (simp only [eq_true h1, eq_true h2, eq_true h3, eq_false h4, eq_false h5, eq_true h6, eq_true h7, if_true, if_true, if_false, not_true_eq_false, not_false_eq_true, and_true, true_and, and_false, false_and, or_true, true_or, or_false, false_or, reduceIte]; done) | (simp only [eq_true h1, eq_true h2, eq_true h3, eq_false h4, eq_false h5, eq_true h6, eq_true h7, if_true, if_true, if_false, not_true_eq_false, not_false_eq_true, and_true, true_and, and_false, false_and, or_true, true_or, or_false, false_or, reduceIte]; rfl) | rfl)
              · refine e_4 rfl rfl ?_
                refine e_0 rfl ?_
                refine e_v1 rfl (by first | exact p_0 hp | exact (p_ro hp hk).1 | exact (p_ro hp ht).1 | exact (p_ro hp hk).2.1 | exact (p_ro hp ht).2.1) rfl (by decide) rfl (Nat.le_of_ble_eq_true rfl) (evo (k_find (f := 2) hp (by decide) (by decide))) ?_
                exact e_ri rfl rfl (by first | (simp only [eq_true h1, eq_true h2, eq_true h3, eq_false h4, eq_false h5, eq_true h6, eq_false h7, if_true, if_true, if_false, not_true_eq_false, not_false_eq_true, and_true, true_and, and_false, false_and, or_true, true_or, or_false, false_or, reduceIte]; done) | (simp only [eq_true h1, eq_true h2, eq_true h3, eq_false h4, eq_false h5, eq_true h6, eq_false h7, if_true, if_true, if_false, not_true_eq_false, not_false_eq_true, and_true, true_and, and_false, false_and, or_true, true_or, or_false, false_or, reduceIte]; rfl) | rfl) (by first | (rw [nI_clamp (by omega), nI_clamp (by omega), nI_clamp (by omega)]; simp only [eq_true h1, eq_true h2, eq_true h3, eq_false h4, eq_false h5, eq_true h6, eq_false h7, if_true, if_true, if_false, not_true_eq_false, not_false_eq_true, or_false, or_true, false_or, true_or]; done) | first | (simp only [eq_true h1, eq_true h2, eq_true h3, eq_false h4, eq_false h5, eq_true h6, eq_false h7, if_true, if_true, if_false, not_true_eq_false, not_false_eq_true, and_true, true_and, and_false, false_and, or_true, true_or, or_false, false_or, reduceIte]; done) | (simp only [eq_true h1, eq_true h2, eq_true h3, eq_false h4, eq_false h5, eq_true h6, eq_false h7, if_true, if_true, if_false, not_true_eq_false, not_false_eq_true, and_true, true_and, and_false, false_and, or_true, true_or, or_false, false_or, reduceIte]; rfl) | rfl)
          · refine e_4 rfl rfl ?_
            refine e_0 rfl ?_
            refine e_v1 rfl (by first | exact p_0 hp | exact (p_ro hp hk).1 | exact (p_ro hp ht).1 | exact (p_ro hp hk).2.1 | exact (p_ro hp ht).2.1) rfl (by decide) rfl (Nat.le_of_ble_eq_true rfl) (evo (k_find (f := 1) hp (by decide) (by decide))) ?_
            exact e_ri rfl rfl (by first | (simp only [eq_true h1, eq_true h2, eq_true h3, eq_false h4, eq_true h5, if_true, if_true, if_false, not_true_eq_false, not_false_eq_true, and_true, true_and, and_false, false_and, or_true, true_or, or_false, false_or, reduceIte]; done) | (simp only [eq_true h1, eq_true h2, eq_true h3, eq_false h4, eq_true h5, if_true, if_true, if_false, not_true_eq_false, not_false_eq_true, and_true, true_and, and_false, false_and, or_true, true_or, or_false, false_or, reduceIte]; rfl) | rfl) (by first | (rw [nI_clamp (by omega), nI_clamp (by omega), nI_clamp (by omega)]; simp only [eq_true h1, eq_true h2, eq_true h3, eq_false h4, eq_true h5, if_true, if_true, if_false, not_true_eq_false, not_false_eq_true, or_false, or_true, false_or, true_or]; done) | first | (simp only [eq_true h1, eq_true h2, eq_true h3, eq_false h4, eq_true h5, if_true, if_true, if_false, not_true_eq_false, not_false_eq_true, and_true, true_and, and_false, false_and, or_true, true_or, or_false, false_or, reduceIte]; done) | (simp only [eq_true h1, eq_true h2, eq_true h3, eq_false h4, eq_true h5, if_true, if_true, if_false, not_true_eq_false, not_false_eq_true, and_true, true_and, and_false, false_and, or_true, true_or, or_false, false_or, reduceIte]; rfl) | rfl)
      · refine e_4 rfl rfl ?_
        refine e_0 rfl ?_
        refine e_v1 rfl (by first | exact p_0 hp | exact (p_ro hp hk).1 | exact (p_ro hp ht).1 | exact (p_ro hp hk).2.1 | exact (p_ro hp ht).2.1) rfl (by decide) rfl (Nat.le_of_ble_eq_true rfl) (evo (k_find (f := 5) hp (by decide) (by decide))) ?_
        exact e_ri rfl rfl (by first | (simp only [eq_true h1, eq_true h2, eq_false h3, if_true, if_true, if_false, not_true_eq_false, not_false_eq_true, and_true, true_and, and_false, false_and, or_true, true_or, or_false, false_or, reduceIte]; done) | (simp only [eq_true h1, eq_true h2, eq_false h3, if_true, if_true, if_false, not_true_eq_false, not_false_eq_true, and_true, true_and, and_false, false_and, or_true, true_or, or_false, false_or, reduceIte]; rfl) | rfl) (by first | (rw [nI_clamp (by omega), nI_clamp (by omega), nI_clamp (by omega)]; simp only [eq_true h1, eq_true h2, eq_false h3, if_true, if_true, if_false, not_true_eq_false, not_false_eq_true, or_false, or_true, false_or, true_or]; done) | first | (simp only [eq_true h1, eq_true h2, eq_false h3, if_true, if_true, if_false, not_true_eq_false, not_false_eq_true, and_true, true_and, and_false, false_and, or_true, true_or, or_false, false_or, reduceIte]; done) | (simp only [eq_true h1, eq_true h2, eq_false h3, if_true, if_true, if_false, not_true_eq_false, not_false_eq_true, and_true, true_and, and_false, false_and, or_true, true_or, or_false, false_or, reduceIte]; rfl) | rfl)
    · refine e_0 rfl ?_
      exact e_ri rfl rfl (by first | (simp only [eq_true h1, eq_false h2, if_true, if_true, if_false, not_true_eq_false, not_false_eq_true, and_true, true_and, and_false, false_and, or_true, true_or, or_false, false_or, reduceIte]; done) | (simp only [eq_true h1, eq_false h2, if_true, if_true, if_false, not_true_eq_false, not_false_eq_true, and_true, true_and, and_false, false_and, or_true, true_or, or_false, false_or, reduceIte]; rfl) | rfl) (by first | (rw [nI_clamp (by omega), nI_clamp (by omega), nI_clamp (by omega)]; simp only [eq_true h1, eq_false h2, if_true, if_true, if_false, not_true_eq_false, not_false_eq_true, or_false, or_true, false_or, true_or]; done) | first | (simp only [eq_true h1, eq_false h2, if_true, if_true, if_false, not_true_eq_false, not_false_eq_true, and_true, true_and, and_false, false_and, or_true, true_or, or_false, false_or, reduceIte]; done) | (simp only [eq_true h1, eq_false h2, if_true, if_true, if_false, not_true_eq_false, not_false_eq_true, and_true, true_and, and_false, false_and, or_true, true_or, or_false, false_or, reduceIte]; rfl) | rfl)
theorem kq_asked (hp : isPs μ)  : evI (ps_XX L xs) (d + 1) j_X7_asked [.ref 0] (μ) (ps_i μ 0 11, μ) := by
  refine ⟨Nat.le_of_ble_eq_true rfl, ?_⟩
  refine e_4 rfl rfl ?_
  refine e_gi rfl (p_0 hp) rfl (by decide) ?_
  exact e_ri rfl rfl (by rfl) (rfl)
theorem kq_finding (hp : isPs μ)  : evI (ps_XX L xs) (d + 1) j_X7_finding [.ref 0] (μ) (ps_i μ 0 10, μ) := by
  refine ⟨Nat.le_of_ble_eq_true rfl, ?_⟩
  refine e_4 rfl rfl ?_
  refine e_gi rfl (p_0 hp) rfl (by decide) ?_
  exact e_ri rfl rfl (by rfl) (rfl)
theorem kq_upper (hp : isPs μ) : ps_Ev (ps_XX L xs) (d + 1) j_X7_upper [.ref 0] μ (some (.long (ps_l μ 0 12))) μ := by
  refine ⟨Nat.le_of_ble_eq_true rfl, ?_⟩
  refine e_4 rfl rfl ?_
  refine e_gl rfl (p_0 hp) rfl ?_
  exact e_rl rfl (by rfl) (rfl)
theorem kq_lower (hp : isPs μ) : ps_Ev (ps_XX L xs) (d + 1) j_X7_lower [.ref 0] μ (some (.long (ps_l μ 0 13))) μ := by
  refine ⟨Nat.le_of_ble_eq_true rfl, ?_⟩
  refine e_4 rfl rfl ?_
  refine e_gl rfl (p_0 hp) rfl ?_
  exact e_rl rfl (by rfl) (rfl)
theorem kq_findings (hp : isPs μ) {f : Int32} {k : Nat} (hf : ¬ f < 1 ∧ f ≤ 5 → f = nI k ∧ k < 6) : evI (ps_XX L xs) (d + 1) j_X7_findings [.ref 0, .int f] (μ) (if ¬ f < 1 ∧ f ≤ 5 then (ps_i μ 44 k, μ) else (-1, μ)) := by
  refine ⟨Nat.le_of_ble_eq_true rfl, ?_⟩
  refine e_2 rfl rfl ?_
  refine e_0 rfl ?_
  refine e_38 rfl (fun h1 => ?_) (fun h1 => ?_)
  · refine e_0 rfl ?_
    refine e_42 rfl ?_
    exact e_ri rfl rfl (by first | (simp only [eq_true h1, if_true, if_true, if_false, not_true_eq_false, not_false_eq_true, and_true, true_and, and_false, false_and, or_true, true_or, or_false, false_or, reduceIte]; done) | (simp only [eq_true h1, if_true, if_true, if_false, not_true_eq_false, not_false_eq_true, and_true, true_and, and_false, false_and, or_true, true_or, or_false, false_or, reduceIte]; rfl) | rfl) (by first | (simp only [eq_true h1, if_true, if_true, if_false, not_true_eq_false, not_false_eq_true, and_true, true_and, and_false, false_and, or_true, true_or, or_false, false_or, reduceIte]; done) | (simp only [eq_true h1, if_true, if_true, if_false, not_true_eq_false, not_false_eq_true, and_true, true_and, and_false, false_and, or_true, true_or, or_false, false_or, reduceIte]; rfl) | rfl)
  · refine e_2 rfl rfl ?_
    refine e_0 rfl ?_
    refine e_41 rfl (fun h2 => ?_) (fun h2 => ?_)
    · obtain ⟨rfl, hk⟩ := hf ⟨h1, h2⟩
      refine e_4 rfl rfl ?_
      refine e_gr rfl (p_0 hp) rfl (p_f9 hp) ?_
      refine e_2 rfl rfl ?_
      refine e_48q (i := k) rfl (p_44 hp) (by first | rfl | (simp only [← nI_add, ← pk_mul]; rfl) | (simp only [nI_add, pk_mul, nI_1]; done)) (by omega) (by decide) ?_
      exact e_ri rfl rfl (by first | (simp only [eq_false h1, eq_true h2, if_true, if_true, if_false, not_true_eq_false, not_false_eq_true, and_true, true_and, and_false, false_and, or_true, true_or, or_false, false_or, reduceIte]; done) | (simp only [eq_false h1, eq_true h2, if_true, if_true, if_false, not_true_eq_false, not_false_eq_true, and_true, true_and, and_false, false_and, or_true, true_or, or_false, false_or, reduceIte]; rfl) | rfl) (by first | (simp only [eq_false h1, eq_true h2, if_true, if_true, if_false, not_true_eq_false, not_false_eq_true, and_true, true_and, and_false, false_and, or_true, true_or, or_false, false_or, reduceIte]; done) | (simp only [eq_false h1, eq_true h2, if_true, if_true, if_false, not_true_eq_false, not_false_eq_true, and_true, true_and, and_false, false_and, or_true, true_or, or_false, false_or, reduceIte]; rfl) | rfl)
    · refine e_0 rfl ?_
      refine e_42 rfl ?_
      exact e_ri rfl rfl (by first | (simp only [eq_false h1, eq_false h2, if_true, if_true, if_false, not_true_eq_false, not_false_eq_true, and_true, true_and, and_false, false_and, or_true, true_or, or_false, false_or, reduceIte]; done) | (simp only [eq_false h1, eq_false h2, if_true, if_true, if_false, not_true_eq_false, not_false_eq_true, and_true, true_and, and_false, false_and, or_true, true_or, or_false, false_or, reduceIte]; rfl) | rfl) (by first | (simp only [eq_false h1, eq_false h2, if_true, if_true, if_false, not_true_eq_false, not_false_eq_true, and_true, true_and, and_false, false_and, or_true, true_or, or_false, false_or, reduceIte]; done) | (simp only [eq_false h1, eq_false h2, if_true, if_true, if_false, not_true_eq_false, not_false_eq_true, and_true, true_and, and_false, false_and, or_true, true_or, or_false, false_or, reduceIte]; rfl) | rfl)
end KQ1
