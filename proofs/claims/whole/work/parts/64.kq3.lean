-- ===== the class: plans and rotas aside =====
theorem SM_offF {μ : ps_M} {b a : Nat} {σ : Nat → Int32} (h : a < b ∨ b + 3 < a) : ps_i (SM μ b σ) a = ps_i μ a := funext fun _ => SM_off h
section KQ3
variable {L : Nat} {xs : Nat → Int32} {d : Nat} {μ : ps_M} {σ0 τ : Nat → Int32} {g : Nat}
theorem k10_missing (hp : isPs μ) {k : Nat} (hk : k < 6) : ps_Ev (ps_XX L xs) (d + 1) j_X4_isMissing [.ref (45 + 2 * k)] (SM μ 10 τ) (some (.int (b2i (¬ 0 ≤ ps_i μ (45 + 2 * k) 0)))) (SM μ 10 τ) := by
  have h := kr_isMissing (L := L) (xs := xs) (d := d) (μ := SM μ 10 τ) (r := 45 + 2 * k) (by exact p_ro hp hk)
  rw [SM_off (by omega)] at h
  exact h
theorem k10_acts (hp : isPs μ) {k S : Nat} (hk : k < 6) (eS : ps_i μ (45 + 2 * k) 0 = nI S) (hS : S ≤ 40) : ps_Ev (ps_XX L xs) (d + 2) j_X1_isOfActs [.ref (45 + 2 * k)] (SM μ 10 τ) (some (.int (b2i (actsB (ps_i μ (45 + 2 * k + 1)) S = true)))) (SM μ 10 τ) := by
  have h := kr_acts (L := L) (xs := xs) (d := d) (μ := SM μ 10 τ) (r := 45 + 2 * k) (S := S) (by exact p_ro hp hk) ((SM_off (by omega)).trans eS) hS
  rw [SM_offF (by omega)] at h
  exact h
theorem k10_follow (hp : isPs μ) (e0 : shG (ps_i μ) 4 = σ0) (h7 : σ0 7 = 0 ∨ σ0 7 = 1) : ps_Ev (ps_XX L xs) (d + 1) j_X3_follow [.ref 10, .ref 4] (SM μ 10 τ) none (SM μ 10 σ0) := by
  subst e0
  exact ss_follow (p_sh10 hp) (p_sh4 hp) (by omega) h7
theorem kq_run (hp : isPs μ) (e0 : shG (ps_i μ) 4 = σ0) (hI : shI g σ0) {r : Int32} {k : Nat} (hr : rowP r → r = nI k ∧ k < 6) {S : Nat} (hS : 0 ≤ ps_i μ (45 + 2 * k) 0 → ps_i μ (45 + 2 * k) 0 = nI S ∧ S ≤ 40) : evI (ps_XX L xs) (d + 6) j_X7_run [.ref 0, .int r] (SM μ 10 τ) (if ¬ rowP r then (-1, SM μ 10 τ) else if σ0 8 = 0 then (-4, SM μ 10 τ) else if ¬ 0 ≤ ps_i μ (45 + 2 * k) 0 then (-3, FC (SM μ 10 τ) 1) else if ¬ actsB (ps_i μ (45 + 2 * k + 1)) S = true then (-3, FC (SM μ 10 τ) 3) else ((planF g (ps_i μ (45 + 2 * k + 1)) S 0 σ0).1, ps_sI (SM μ 10 (planF g (ps_i μ (45 + 2 * k + 1)) S 0 σ0).2) 0 11 ((planF g (ps_i μ (45 + 2 * k + 1)) S 0 σ0).2 0))) := by
  refine ⟨Nat.le_of_ble_eq_true rfl, ?_⟩
  have hg := hI.1.1
  have h8 := hI.1.2.1
  have h7 := hI.2.2.1
  have e8 : ps_i μ 4 8 = σ0 8 := by rw [← e0]; rfl
  have e5 : ps_i μ 4 5 = σ0 5 := by rw [← e0]; rfl
  have e2 : ps_i μ 4 2 = σ0 2 := by rw [← e0]; rfl
  refine e_2 rfl rfl ?_
  refine e_s1 rfl rfl rfl (Nat.le_of_ble_eq_true rfl) (k_isRow _) ?_
  refine e_31b rfl (fun h1 => ?_) (fun h1 => ?_)
  · obtain ⟨rfl, hk⟩ := hr h1
    refine e_4 rfl rfl ?_
    refine e_gr rfl (p_0 hp) rfl (p_f4 hp) ?_
    refine e_gi rfl (p_sh4 hp).1 rfl (by decide) ?_
    rw [SM_off (by omega), e8]
    refine e_31 rfl (fun h2 => ?_) (fun h2 => ?_)
    · refine e_4 rfl rfl ?_
      refine e_gr rfl (p_0 hp) rfl (p_f0 hp) ?_
      refine e_2 rfl rfl ?_
      refine e_gaq (i := k) rfl (p_1 hp) (by decide) (by decide) (by first | rfl | (simp only [← nI_add, ← pk_mul]; rfl) | (simp only [nI_add, pk_mul, nI_1]; done)) (by omega) (by decide) (p_r1 hp (by omega)) ?_
      refine e_7 rfl rfl ?_
      refine e_4 rfl rfl ?_
      refine e_v0 rfl (by first | exact p_0 hp | exact (p_ro hp (by omega)).1 | exact (p_sh10 hp).1 | exact (p_sh4 hp).1) rfl (by decide) rfl (Nat.le_of_ble_eq_true rfl) (k10_missing hp hk) ?_
      refine e_30b rfl (fun h3 => ?_) (fun h3 => ?_)
      · obtain ⟨eS, hS40⟩ := hS (Classical.not_not.mp h3)
        refine e_4 rfl rfl ?_
        refine e_v0 rfl (by first | exact p_0 hp | exact (p_ro hp (by omega)).1 | exact (p_sh10 hp).1 | exact (p_sh4 hp).1) rfl (by decide) rfl (Nat.le_of_ble_eq_true rfl) (k10_acts hp hk eS hS40) ?_
        refine e_31b rfl (fun h4 => ?_) (fun h4 => ?_)
        · refine e_4 rfl rfl ?_
          refine e_gr rfl (p_0 hp) rfl (p_f5 hp) ?_
          refine e_4 rfl rfl ?_
          refine e_gr rfl (p_0 hp) rfl (p_f4 hp) ?_
          refine e_v1v rfl (by first | exact p_0 hp | exact (p_ro hp (by omega)).1 | exact (p_sh10 hp).1 | exact (p_sh4 hp).1) rfl (by decide) rfl (Nat.le_of_ble_eq_true rfl) (k10_follow hp e0 h7) ?_
          refine e_4 rfl rfl ?_
          refine e_gr rfl (p_0 hp) rfl (p_f5 hp) ?_
          refine e_4 rfl rfl ?_
          refine e_v1 rfl (by first | exact p_0 hp | exact (p_ro hp (by omega)).1 | exact (p_sh10 hp).1 | exact (p_sh4 hp).1) rfl (by decide) rfl (Nat.le_of_ble_eq_true rfl) (ss_plan (p_sh10 hp) hg h8 (p_ro hp hk) (by omega) eS hS40) ?_
          refine e_5 rfl rfl ?_
          refine e_4 rfl rfl ?_
          refine e_4 rfl rfl ?_
          refine e_gr rfl (p_0 hp) rfl (p_f5 hp) ?_
          refine s_gi (p_sh10 hp) rfl rfl (by decide) (by decide) ?_
          refine e_pi rfl (p_0 hp) rfl (Or.inl rfl) ?_
          refine e_2 rfl rfl ?_
          exact e_ri rfl rfl (by first | (simp only [eq_true h1, eq_false h2, eq_false h3, eq_true h4, if_true, if_true, if_false, not_true_eq_false, not_false_eq_true, and_true, true_and, and_false, false_and, or_true, true_or, or_false, false_or, reduceIte]; done) | (simp only [eq_true h1, eq_false h2, eq_false h3, eq_true h4, if_true, if_true, if_false, not_true_eq_false, not_false_eq_true, and_true, true_and, and_false, false_and, or_true, true_or, or_false, false_or, reduceIte]; rfl) | rfl) (by first | (simp only [eq_true h1, eq_false h2, eq_false h3, eq_true h4, if_true, if_true, if_false, not_true_eq_false, not_false_eq_true, and_true, true_and, and_false, false_and, or_true, true_or, or_false, false_or, reduceIte]; done) | (simp only [eq_true h1, eq_false h2, eq_false h3, eq_true h4, if_true, if_true, if_false, not_true_eq_false, not_false_eq_true, and_true, true_and, and_false, false_and, or_true, true_or, or_false, false_or, reduceIte]; rfl) | rfl)
        · refine e_4 rfl rfl ?_
          refine e_0 rfl ?_
          refine e_v1 rfl (by first | exact p_0 hp | exact (p_ro hp (by omega)).1 | exact (p_sh10 hp).1 | exact (p_sh4 hp).1) rfl (by decide) rfl (Nat.le_of_ble_eq_true rfl) (evo (k_find (f := 3) (μ := SM μ 10 τ) hp (by decide) (by decide))) ?_
          exact e_ri rfl rfl (by first | (simp only [eq_true h1, eq_false h2, eq_false h3, eq_false h4, if_true, if_true, if_false, not_true_eq_false, not_false_eq_true, and_true, true_and, and_false, false_and, or_true, true_or, or_false, false_or, reduceIte]; done) | (simp only [eq_true h1, eq_false h2, eq_false h3, eq_false h4, if_true, if_true, if_false, not_true_eq_false, not_false_eq_true, and_true, true_and, and_false, false_and, or_true, true_or, or_false, false_or, reduceIte]; rfl) | rfl) (by first | (simp only [eq_true h1, eq_false h2, eq_false h3, eq_false h4, if_true, if_true, if_false, not_true_eq_false, not_false_eq_true, and_true, true_and, and_false, false_and, or_true, true_or, or_false, false_or, reduceIte]; done) | (simp only [eq_true h1, eq_false h2, eq_false h3, eq_false h4, if_true, if_true, if_false, not_true_eq_false, not_false_eq_true, and_true, true_and, and_false, false_and, or_true, true_or, or_false, false_or, reduceIte]; rfl) | rfl)
      · refine e_4 rfl rfl ?_
        refine e_0 rfl ?_
        refine e_v1 rfl (by first | exact p_0 hp | exact (p_ro hp (by omega)).1 | exact (p_sh10 hp).1 | exact (p_sh4 hp).1) rfl (by decide) rfl (Nat.le_of_ble_eq_true rfl) (evo (k_find (f := 1) (μ := SM μ 10 τ) hp (by decide) (by decide))) ?_
        exact e_ri rfl rfl (by first | (simp only [eq_true h1, eq_false h2, eq_true h3, if_true, if_true, if_false, not_true_eq_false, not_false_eq_true, and_true, true_and, and_false, false_and, or_true, true_or, or_false, false_or, reduceIte]; done) | (simp only [eq_true h1, eq_false h2, eq_true h3, if_true, if_true, if_false, not_true_eq_false, not_false_eq_true, and_true, true_and, and_false, false_and, or_true, true_or, or_false, false_or, reduceIte]; rfl) | rfl) (by first | (simp only [eq_true h1, eq_false h2, eq_true h3, if_true, if_true, if_false, not_true_eq_false, not_false_eq_true, and_true, true_and, and_false, false_and, or_true, true_or, or_false, false_or, reduceIte]; done) | (simp only [eq_true h1, eq_false h2, eq_true h3, if_true, if_true, if_false, not_true_eq_false, not_false_eq_true, and_true, true_and, and_false, false_and, or_true, true_or, or_false, false_or, reduceIte]; rfl) | rfl)
    · refine e_0 rfl ?_
      exact e_ri rfl rfl (by first | (simp only [eq_true h1, eq_true h2, if_true, if_true, if_false, not_true_eq_false, not_false_eq_true, and_true, true_and, and_false, false_and, or_true, true_or, or_false, false_or, reduceIte]; done) | (simp only [eq_true h1, eq_true h2, if_true, if_true, if_false, not_true_eq_false, not_false_eq_true, and_true, true_and, and_false, false_and, or_true, true_or, or_false, false_or, reduceIte]; rfl) | rfl) (by first | (simp only [eq_true h1, eq_true h2, if_true, if_true, if_false, not_true_eq_false, not_false_eq_true, and_true, true_and, and_false, false_and, or_true, true_or, or_false, false_or, reduceIte]; done) | (simp only [eq_true h1, eq_true h2, if_true, if_true, if_false, not_true_eq_false, not_false_eq_true, and_true, true_and, and_false, false_and, or_true, true_or, or_false, false_or, reduceIte]; rfl) | rfl)
  · refine e_0 rfl ?_
    exact e_ri rfl rfl (by first | (simp only [eq_false h1, if_true, if_true, if_false, not_true_eq_false, not_false_eq_true, and_true, true_and, and_false, false_and, or_true, true_or, or_false, false_or, reduceIte]; done) | (simp only [eq_false h1, if_true, if_true, if_false, not_true_eq_false, not_false_eq_true, and_true, true_and, and_false, false_and, or_true, true_or, or_false, false_or, reduceIte]; rfl) | rfl) (by first | (simp only [eq_false h1, if_true, if_true, if_false, not_true_eq_false, not_false_eq_true, and_true, true_and, and_false, false_and, or_true, true_or, or_false, false_or, reduceIte]; done) | (simp only [eq_false h1, if_true, if_true, if_false, not_true_eq_false, not_false_eq_true, and_true, true_and, and_false, false_and, or_true, true_or, or_false, false_or, reduceIte]; rfl) | rfl)
theorem kq_rota (hp : isPs μ) (e0 : shG (ps_i μ) 4 = σ0) (hI : shI g σ0) {r : Int32} {k : Nat} (hr : rowP r → r = nI k ∧ k < 6) {S : Nat} (hS : 0 ≤ ps_i μ (45 + 2 * k) 0 → ps_i μ (45 + 2 * k) 0 = nI S ∧ S ≤ 40) : evI (ps_XX L xs) (d + 7) j_X7_rota [.ref 0, .int r] (SM μ 10 τ) (if ¬ rowP r then (-1, SM μ 10 τ) else if σ0 8 = 0 then (-4, SM μ 10 τ) else if ¬ 0 ≤ ps_i μ (45 + 2 * k) 0 then (-3, FC (SM μ 10 τ) 1) else if ps_i μ (45 + 2 * k) 0 = 0 ∨ ¬ ps_i μ (45 + 2 * k) 0 ≤ 12 then (-3, FC (SM μ 10 τ) 5) else if ¬ actsB (ps_i μ (45 + 2 * k + 1)) S = true then (-3, FC (SM μ 10 τ) 3) else (if sunkF (rotaF g (ps_i μ (45 + 2 * k + 1)) S 40 0 σ0) then -9 else (rotaF g (ps_i μ (45 + 2 * k + 1)) S 40 0 σ0) 0, ps_sI (SM μ 10 (rotaF g (ps_i μ (45 + 2 * k + 1)) S 40 0 σ0)) 0 11 ((rotaF g (ps_i μ (45 + 2 * k + 1)) S 40 0 σ0) 5 - σ0 5))) := by
  refine ⟨Nat.le_of_ble_eq_true rfl, ?_⟩
  have hg := hI.1.1
  have h8 := hI.1.2.1
  have h7 := hI.2.2.1
  have e8 : ps_i μ 4 8 = σ0 8 := by rw [← e0]; rfl
  have e5 : ps_i μ 4 5 = σ0 5 := by rw [← e0]; rfl
  have e2 : ps_i μ 4 2 = σ0 2 := by rw [← e0]; rfl
  refine e_2 rfl rfl ?_
  refine e_s1 rfl rfl rfl (Nat.le_of_ble_eq_true rfl) (k_isRow _) ?_
  refine e_31b rfl (fun h1 => ?_) (fun h1 => ?_)
  · obtain ⟨rfl, hk⟩ := hr h1
    refine e_4 rfl rfl ?_
    refine e_gr rfl (p_0 hp) rfl (p_f4 hp) ?_
    refine e_gi rfl (p_sh4 hp).1 rfl (by decide) ?_
    rw [SM_off (by omega), e8]
    refine e_31 rfl (fun h2 => ?_) (fun h2 => ?_)
    · refine e_4 rfl rfl ?_
      refine e_gr rfl (p_0 hp) rfl (p_f0 hp) ?_
      refine e_2 rfl rfl ?_
      refine e_gaq (i := k) rfl (p_1 hp) (by decide) (by decide) (by first | rfl | (simp only [← nI_add, ← pk_mul]; rfl) | (simp only [nI_add, pk_mul, nI_1]; done)) (by omega) (by decide) (p_r1 hp (by omega)) ?_
      refine e_7 rfl rfl ?_
      refine e_4 rfl rfl ?_
      refine e_v0 rfl (by first | exact p_0 hp | exact (p_ro hp (by omega)).1 | exact (p_sh10 hp).1 | exact (p_sh4 hp).1) rfl (by decide) rfl (Nat.le_of_ble_eq_true rfl) (k10_missing hp hk) ?_
      refine e_30b rfl (fun h3 => ?_) (fun h3 => ?_)
      · obtain ⟨eS, hS40⟩ := hS (Classical.not_not.mp h3)
        refine e_4 rfl rfl ?_
        refine e_gi rfl (p_ro hp (k := k) (by omega)).1 rfl (by decide) ?_
        rw [SM_off (by omega)]
        refine e_30 rfl (fun h4 => ?_) (fun h4 => ?_)
        · refine e_4 rfl rfl ?_
          refine e_0 rfl ?_
          refine e_v1 rfl (by first | exact p_0 hp | exact (p_ro hp (by omega)).1 | exact (p_sh10 hp).1 | exact (p_sh4 hp).1) rfl (by decide) rfl (Nat.le_of_ble_eq_true rfl) (evo (k_find (f := 5) (μ := SM μ 10 τ) hp (by decide) (by decide))) ?_
          exact e_ri rfl rfl (by first | (simp only [eq_true h1, eq_false h2, eq_false h3, eq_true h4, if_true, if_true, if_false, not_true_eq_false, not_false_eq_true, and_true, true_and, and_false, false_and, or_true, true_or, or_false, false_or, reduceIte]; done) | (simp only [eq_true h1, eq_false h2, eq_false h3, eq_true h4, if_true, if_true, if_false, not_true_eq_false, not_false_eq_true, and_true, true_and, and_false, false_and, or_true, true_or, or_false, false_or, reduceIte]; rfl) | rfl) (by first | (simp only [eq_true h1, eq_false h2, eq_false h3, eq_true h4, if_true, if_true, if_false, not_true_eq_false, not_false_eq_true, and_true, true_and, and_false, false_and, or_true, true_or, or_false, false_or, reduceIte]; done) | (simp only [eq_true h1, eq_false h2, eq_false h3, eq_true h4, if_true, if_true, if_false, not_true_eq_false, not_false_eq_true, and_true, true_and, and_false, false_and, or_true, true_or, or_false, false_or, reduceIte]; rfl) | (simp only [eq_true h1, eq_false h2, eq_false h3, eq_true h4, if_true, if_true, if_false, not_true_eq_false, not_false_eq_true, or_false, or_true, false_or, true_or]; exact (SM_sIo (by omega)).symm) | rfl)
        · refine e_4 rfl rfl ?_
          refine e_gi rfl (p_ro hp (k := k) (by omega)).1 rfl (by decide) ?_
          rw [SM_off (by omega)]
          refine e_0 rfl ?_
          refine e_41 rfl (fun h5 => ?_) (fun h5 => ?_)
          · refine e_4 rfl rfl ?_
            refine e_v0 rfl (by first | exact p_0 hp | exact (p_ro hp (by omega)).1 | exact (p_sh10 hp).1 | exact (p_sh4 hp).1) rfl (by decide) rfl (Nat.le_of_ble_eq_true rfl) (k10_acts hp hk eS hS40) ?_
            refine e_31b rfl (fun h6 => ?_) (fun h6 => ?_)
            · have hS0 : 0 < S := Nat.pos_of_ne_zero (fun z => h4 (by rw [eS, z]; rfl))
              refine e_4 rfl rfl ?_
              refine e_gr rfl (p_0 hp) rfl (p_f5 hp) ?_
              refine e_4 rfl rfl ?_
              refine e_gr rfl (p_0 hp) rfl (p_f4 hp) ?_
              refine e_v1v rfl (by first | exact p_0 hp | exact (p_ro hp (by omega)).1 | exact (p_sh10 hp).1 | exact (p_sh4 hp).1) rfl (by decide) rfl (Nat.le_of_ble_eq_true rfl) (k10_follow hp e0 h7) ?_
              refine e_4 rfl rfl ?_
              refine e_gr rfl (p_0 hp) rfl (p_f5 hp) ?_
              refine e_4 rfl rfl ?_
              refine e_gr rfl (p_ro hp (k := k) (by omega)).1 rfl (p_ro hp (k := k) (by omega)).2.2 ?_
              refine e_4 rfl rfl ?_
              refine e_gi rfl (p_ro hp (k := k) (by omega)).1 rfl (by decide) ?_
              rw [SM_off (by omega)]
              rw [eS] at h3 h4 h5 ⊢
              refine e_v2v rfl (by first | exact p_0 hp | exact (p_ro hp (by omega)).1 | exact (p_sh10 hp).1 | exact (p_sh4 hp).1) rfl (by decide) rfl (Nat.le_of_ble_eq_true rfl) (ss_rota (p_sh10 hp) hg h8 (p_ro hp hk).2.1 (by omega) (by omega) (m := S) hS0 (by omega)) ?_
              refine e_4 rfl rfl ?_
              refine e_4 rfl rfl ?_
              refine e_gr rfl (p_0 hp) rfl (p_f5 hp) ?_
              refine s_gi (p_sh10 hp) rfl rfl (by decide) (by decide) ?_
              refine e_4 rfl rfl ?_
              refine e_gr rfl (p_0 hp) rfl (p_f4 hp) ?_
              refine e_gi rfl (p_sh4 hp).1 rfl (by decide) ?_
              rw [SM_off (by omega), e5]
              refine e_10 rfl ?_
              refine e_pi rfl (p_0 hp) rfl (Or.inl rfl) ?_
              rw [SM_sIo (by omega)]
              refine e_4 rfl rfl ?_
              refine e_gr rfl (p_0 hp) rfl (p_f5 hp) ?_
              refine e_v0 rfl (by first | exact p_0 hp | exact (p_ro hp (by omega)).1 | exact (p_sh10 hp).1 | exact (p_sh4 hp).1) rfl (by decide) rfl (Nat.le_of_ble_eq_true rfl) (ss_isSunk (by exact p_sh10 hp)) ?_
              refine e_30b rfl (fun h7 => ?_) (fun h7 => ?_)
              · refine e_4 rfl rfl ?_
                refine e_gr rfl (p_0 hp) rfl (p_f5 hp) ?_
                refine s_gi (p_sh10 hp) rfl rfl (by decide) (by decide) ?_
                exact e_ri rfl rfl (by first | (simp only [eq_true h1, eq_false h2, eq_false h3, eq_false h4, eq_true h5, eq_true h6, eq_false h7, if_true, if_true, if_false, not_true_eq_false, not_false_eq_true, and_true, true_and, and_false, false_and, or_true, true_or, or_false, false_or, reduceIte]; done) | (simp only [eq_true h1, eq_false h2, eq_false h3, eq_false h4, eq_true h5, eq_true h6, eq_false h7, if_true, if_true, if_false, not_true_eq_false, not_false_eq_true, and_true, true_and, and_false, false_and, or_true, true_or, or_false, false_or, reduceIte]; rfl) | rfl) (by first | (simp only [eq_true h1, eq_false h2, eq_false h3, eq_false h4, eq_true h5, eq_true h6, eq_false h7, if_true, if_true, if_false, not_true_eq_false, not_false_eq_true, and_true, true_and, and_false, false_and, or_true, true_or, or_false, false_or, reduceIte]; done) | (simp only [eq_true h1, eq_false h2, eq_false h3, eq_false h4, eq_true h5, eq_true h6, eq_false h7, if_true, if_true, if_false, not_true_eq_false, not_false_eq_true, and_true, true_and, and_false, false_and, or_true, true_or, or_false, false_or, reduceIte]; rfl) | (simp only [eq_true h1, eq_false h2, eq_false h3, eq_false h4, eq_true h5, eq_true h6, eq_false h7, if_true, if_true, if_false, not_true_eq_false, not_false_eq_true, or_false, or_true, false_or, true_or]; exact (SM_sIo (by omega)).symm) | rfl)
              · refine e_0 rfl ?_
                refine e_42 rfl ?_
                exact e_ri rfl rfl (by first | (simp only [eq_true h1, eq_false h2, eq_false h3, eq_false h4, eq_true h5, eq_true h6, eq_true h7, if_true, if_true, if_false, not_true_eq_false, not_false_eq_true, and_true, true_and, and_false, false_and, or_true, true_or, or_false, false_or, reduceIte]; done) | (simp only [eq_true h1, eq_false h2, eq_false h3, eq_false h4, eq_true h5, eq_true h6, eq_true h7, if_true, if_true, if_false, not_true_eq_false, not_false_eq_true, and_true, true_and, and_false, false_and, or_true, true_or, or_false, false_or, reduceIte]; rfl) | rfl) (by first | (simp only [eq_true h1, eq_false h2, eq_false h3, eq_false h4, eq_true h5, eq_true h6, eq_true h7, if_true, if_true, if_false, not_true_eq_false, not_false_eq_true, and_true, true_and, and_false, false_and, or_true, true_or, or_false, false_or, reduceIte]; done) | (simp only [eq_true h1, eq_false h2, eq_false h3, eq_false h4, eq_true h5, eq_true h6, eq_true h7, if_true, if_true, if_false, not_true_eq_false, not_false_eq_true, and_true, true_and, and_false, false_and, or_true, true_or, or_false, false_or, reduceIte]; rfl) | (simp only [eq_true h1, eq_false h2, eq_false h3, eq_false h4, eq_true h5, eq_true h6, eq_true h7, if_true, if_true, if_false, not_true_eq_false, not_false_eq_true, or_false, or_true, false_or, true_or]; exact (SM_sIo (by omega)).symm) | rfl)
            · refine e_4 rfl rfl ?_
              refine e_0 rfl ?_
              refine e_v1 rfl (by first | exact p_0 hp | exact (p_ro hp (by omega)).1 | exact (p_sh10 hp).1 | exact (p_sh4 hp).1) rfl (by decide) rfl (Nat.le_of_ble_eq_true rfl) (evo (k_find (f := 3) (μ := SM μ 10 τ) hp (by decide) (by decide))) ?_
              exact e_ri rfl rfl (by first | (simp only [eq_true h1, eq_false h2, eq_false h3, eq_false h4, eq_true h5, eq_false h6, if_true, if_true, if_false, not_true_eq_false, not_false_eq_true, and_true, true_and, and_false, false_and, or_true, true_or, or_false, false_or, reduceIte]; done) | (simp only [eq_true h1, eq_false h2, eq_false h3, eq_false h4, eq_true h5, eq_false h6, if_true, if_true, if_false, not_true_eq_false, not_false_eq_true, and_true, true_and, and_false, false_and, or_true, true_or, or_false, false_or, reduceIte]; rfl) | rfl) (by first | (simp only [eq_true h1, eq_false h2, eq_false h3, eq_false h4, eq_true h5, eq_false h6, if_true, if_true, if_false, not_true_eq_false, not_false_eq_true, and_true, true_and, and_false, false_and, or_true, true_or, or_false, false_or, reduceIte]; done) | (simp only [eq_true h1, eq_false h2, eq_false h3, eq_false h4, eq_true h5, eq_false h6, if_true, if_true, if_false, not_true_eq_false, not_false_eq_true, and_true, true_and, and_false, false_and, or_true, true_or, or_false, false_or, reduceIte]; rfl) | (simp only [eq_true h1, eq_false h2, eq_false h3, eq_false h4, eq_true h5, eq_false h6, if_true, if_true, if_false, not_true_eq_false, not_false_eq_true, or_false, or_true, false_or, true_or]; exact (SM_sIo (by omega)).symm) | rfl)
          · refine e_4 rfl rfl ?_
            refine e_0 rfl ?_
            refine e_v1 rfl (by first | exact p_0 hp | exact (p_ro hp (by omega)).1 | exact (p_sh10 hp).1 | exact (p_sh4 hp).1) rfl (by decide) rfl (Nat.le_of_ble_eq_true rfl) (evo (k_find (f := 5) (μ := SM μ 10 τ) hp (by decide) (by decide))) ?_
            exact e_ri rfl rfl (by first | (simp only [eq_true h1, eq_false h2, eq_false h3, eq_false h4, eq_false h5, if_true, if_true, if_false, not_true_eq_false, not_false_eq_true, and_true, true_and, and_false, false_and, or_true, true_or, or_false, false_or, reduceIte]; done) | (simp only [eq_true h1, eq_false h2, eq_false h3, eq_false h4, eq_false h5, if_true, if_true, if_false, not_true_eq_false, not_false_eq_true, and_true, true_and, and_false, false_and, or_true, true_or, or_false, false_or, reduceIte]; rfl) | rfl) (by first | (simp only [eq_true h1, eq_false h2, eq_false h3, eq_false h4, eq_false h5, if_true, if_true, if_false, not_true_eq_false, not_false_eq_true, and_true, true_and, and_false, false_and, or_true, true_or, or_false, false_or, reduceIte]; done) | (simp only [eq_true h1, eq_false h2, eq_false h3, eq_false h4, eq_false h5, if_true, if_true, if_false, not_true_eq_false, not_false_eq_true, and_true, true_and, and_false, false_and, or_true, true_or, or_false, false_or, reduceIte]; rfl) | (simp only [eq_true h1, eq_false h2, eq_false h3, eq_false h4, eq_false h5, if_true, if_true, if_false, not_true_eq_false, not_false_eq_true, or_false, or_true, false_or, true_or]; exact (SM_sIo (by omega)).symm) | rfl)
      · refine e_4 rfl rfl ?_
        refine e_0 rfl ?_
        refine e_v1 rfl (by first | exact p_0 hp | exact (p_ro hp (by omega)).1 | exact (p_sh10 hp).1 | exact (p_sh4 hp).1) rfl (by decide) rfl (Nat.le_of_ble_eq_true rfl) (evo (k_find (f := 1) (μ := SM μ 10 τ) hp (by decide) (by decide))) ?_
        exact e_ri rfl rfl (by first | (simp only [eq_true h1, eq_false h2, eq_true h3, if_true, if_true, if_false, not_true_eq_false, not_false_eq_true, and_true, true_and, and_false, false_and, or_true, true_or, or_false, false_or, reduceIte]; done) | (simp only [eq_true h1, eq_false h2, eq_true h3, if_true, if_true, if_false, not_true_eq_false, not_false_eq_true, and_true, true_and, and_false, false_and, or_true, true_or, or_false, false_or, reduceIte]; rfl) | rfl) (by first | (simp only [eq_true h1, eq_false h2, eq_true h3, if_true, if_true, if_false, not_true_eq_false, not_false_eq_true, and_true, true_and, and_false, false_and, or_true, true_or, or_false, false_or, reduceIte]; done) | (simp only [eq_true h1, eq_false h2, eq_true h3, if_true, if_true, if_false, not_true_eq_false, not_false_eq_true, and_true, true_and, and_false, false_and, or_true, true_or, or_false, false_or, reduceIte]; rfl) | (simp only [eq_true h1, eq_false h2, eq_true h3, if_true, if_true, if_false, not_true_eq_false, not_false_eq_true, or_false, or_true, false_or, true_or]; exact (SM_sIo (by omega)).symm) | rfl)
    · refine e_0 rfl ?_
      exact e_ri rfl rfl (by first | (simp only [eq_true h1, eq_true h2, if_true, if_true, if_false, not_true_eq_false, not_false_eq_true, and_true, true_and, and_false, false_and, or_true, true_or, or_false, false_or, reduceIte]; done) | (simp only [eq_true h1, eq_true h2, if_true, if_true, if_false, not_true_eq_false, not_false_eq_true, and_true, true_and, and_false, false_and, or_true, true_or, or_false, false_or, reduceIte]; rfl) | rfl) (by first | (simp only [eq_true h1, eq_true h2, if_true, if_true, if_false, not_true_eq_false, not_false_eq_true, and_true, true_and, and_false, false_and, or_true, true_or, or_false, false_or, reduceIte]; done) | (simp only [eq_true h1, eq_true h2, if_true, if_true, if_false, not_true_eq_false, not_false_eq_true, and_true, true_and, and_false, false_and, or_true, true_or, or_false, false_or, reduceIte]; rfl) | (simp only [eq_true h1, eq_true h2, if_true, if_true, if_false, not_true_eq_false, not_false_eq_true, or_false, or_true, false_or, true_or]; exact (SM_sIo (by omega)).symm) | rfl)
  · refine e_0 rfl ?_
    exact e_ri rfl rfl (by first | (simp only [eq_false h1, if_true, if_true, if_false, not_true_eq_false, not_false_eq_true, and_true, true_and, and_false, false_and, or_true, true_or, or_false, false_or, reduceIte]; done) | (simp only [eq_false h1, if_true, if_true, if_false, not_true_eq_false, not_false_eq_true, and_true, true_and, and_false, false_and, or_true, true_or, or_false, false_or, reduceIte]; rfl) | rfl) (by first | (simp only [eq_false h1, if_true, if_true, if_false, not_true_eq_false, not_false_eq_true, and_true, true_and, and_false, false_and, or_true, true_or, or_false, false_or, reduceIte]; done) | (simp only [eq_false h1, if_true, if_true, if_false, not_true_eq_false, not_false_eq_true, and_true, true_and, and_false, false_and, or_true, true_or, or_false, false_or, reduceIte]; rfl) | (simp only [eq_false h1, if_true, if_true, if_false, not_true_eq_false, not_false_eq_true, or_false, or_true, false_or, true_or]; exact (SM_sIo (by omega)).symm) | rfl)
theorem k4_sunk (hp : isPs μ) (e0 : shG (ps_i μ) 4 = σ0) : ps_Ev (ps_XX L xs) (d + 1) j_X3_isSunk [.ref 4] (SM μ 10 τ) (some (.int (b2i (sunkF σ0)))) (SM μ 10 τ) := by
  have h := sp_isSunk (X := ps_XX L xs) (d := d) (μ := SM μ 10 τ) (b := 4) (z := 0) (by exact (p_sh4 hp).1)
  rw [SM_off (by omega), show ps_i μ 4 0 = σ0 0 by rw [← e0]; rfl] at h
  exact h
theorem kq_lasts (hp : isPs μ) (e0 : shG (ps_i μ) 4 = σ0) (hI : shI g σ0) (a : Int32) : evI (ps_XX L xs) (d + 7) j_X7_lasts [.ref 0, .int a] (SM μ 10 τ) (if ¬ actP a then (-1, SM μ 10 τ) else if σ0 8 = 0 then (-4, SM μ 10 τ) else if sunkF σ0 then (0, SM μ 10 τ) else (if sunkF (againF g a 40 σ0) then (againF g a 40 σ0) 5 - σ0 5 - 1 else (againF g a 40 σ0) 5 - σ0 5, SM μ 10 (againF g a 40 σ0))) := by
  refine ⟨Nat.le_of_ble_eq_true rfl, ?_⟩
  have hg := hI.1.1
  have h8 := hI.1.2.1
  have h7 := hI.2.2.1
  have e8 : ps_i μ 4 8 = σ0 8 := by rw [← e0]; rfl
  have e5 : ps_i μ 4 5 = σ0 5 := by rw [← e0]; rfl
  have e2 : ps_i μ 4 2 = σ0 2 := by rw [← e0]; rfl
  refine e_2 rfl rfl ?_
  refine e_s1 rfl rfl rfl (Nat.le_of_ble_eq_true rfl) (k_isAct _) ?_
  refine e_31b rfl (fun h1 => ?_) (fun h1 => ?_)
  · refine e_4 rfl rfl ?_
    refine e_gr rfl (p_0 hp) rfl (p_f4 hp) ?_
    refine e_gi rfl (p_sh4 hp).1 rfl (by decide) ?_
    rw [SM_off (by omega), e8]
    refine e_31 rfl (fun h2 => ?_) (fun h2 => ?_)
    · refine e_4 rfl rfl ?_
      refine e_gr rfl (p_0 hp) rfl (p_f4 hp) ?_
      refine e_v0 rfl (by first | exact p_0 hp | exact (p_ro hp (by omega)).1 | exact (p_sh10 hp).1 | exact (p_sh4 hp).1) rfl (by decide) rfl (Nat.le_of_ble_eq_true rfl) (k4_sunk hp e0) ?_
      refine e_30b rfl (fun h3 => ?_) (fun h3 => ?_)
      · refine e_4 rfl rfl ?_
        refine e_gr rfl (p_0 hp) rfl (p_f5 hp) ?_
        refine e_4 rfl rfl ?_
        refine e_gr rfl (p_0 hp) rfl (p_f4 hp) ?_
        refine e_v1v rfl (by first | exact p_0 hp | exact (p_ro hp (by omega)).1 | exact (p_sh10 hp).1 | exact (p_sh4 hp).1) rfl (by decide) rfl (Nat.le_of_ble_eq_true rfl) (k10_follow hp e0 h7) ?_
        refine e_4 rfl rfl ?_
        refine e_gr rfl (p_0 hp) rfl (p_f5 hp) ?_
        refine e_2 rfl rfl ?_
        refine e_0 rfl ?_
        refine e_v2v rfl (by first | exact p_0 hp | exact (p_ro hp (by omega)).1 | exact (p_sh10 hp).1 | exact (p_sh4 hp).1) rfl (by decide) rfl (Nat.le_of_ble_eq_true rfl) (ss_passAgain (p_sh10 hp) hg h8 a (N := 40) (by omega)) ?_
        refine e_4 rfl rfl ?_
        refine e_gr rfl (p_0 hp) rfl (p_f5 hp) ?_
        refine s_gi (p_sh10 hp) rfl rfl (by decide) (by decide) ?_
        refine e_4 rfl rfl ?_
        refine e_gr rfl (p_0 hp) rfl (p_f4 hp) ?_
        refine e_gi rfl (p_sh4 hp).1 rfl (by decide) ?_
        rw [SM_off (by omega), e5]
        refine e_10 rfl ?_
        refine e_5 rfl rfl ?_
        refine e_4 rfl rfl ?_
        refine e_gr rfl (p_0 hp) rfl (p_f5 hp) ?_
        refine e_v0 rfl (by first | exact p_0 hp | exact (p_ro hp (by omega)).1 | exact (p_sh10 hp).1 | exact (p_sh4 hp).1) rfl (by decide) rfl (Nat.le_of_ble_eq_true rfl) (ss_isSunk (p_sh10 hp)) ?_
        refine e_30b rfl (fun h4 => ?_) (fun h4 => ?_)
        · refine e_2 rfl rfl ?_
          exact e_ri rfl rfl (by first | (simp only [eq_true h1, eq_false h2, eq_false h3, eq_false h4, if_true, if_true, if_false, not_true_eq_false, not_false_eq_true, and_true, true_and, and_false, false_and, or_true, true_or, or_false, false_or, reduceIte]; done) | (simp only [eq_true h1, eq_false h2, eq_false h3, eq_false h4, if_true, if_true, if_false, not_true_eq_false, not_false_eq_true, and_true, true_and, and_false, false_and, or_true, true_or, or_false, false_or, reduceIte]; rfl) | rfl) (by first | (simp only [eq_true h1, eq_false h2, eq_false h3, eq_false h4, if_true, if_true, if_false, not_true_eq_false, not_false_eq_true, and_true, true_and, and_false, false_and, or_true, true_or, or_false, false_or, reduceIte]; done) | (simp only [eq_true h1, eq_false h2, eq_false h3, eq_false h4, if_true, if_true, if_false, not_true_eq_false, not_false_eq_true, and_true, true_and, and_false, false_and, or_true, true_or, or_false, false_or, reduceIte]; rfl) | rfl)
        · refine e_2 rfl rfl ?_
          refine e_0 rfl ?_
          refine e_10 rfl ?_
          refine e_42 rfl ?_
          exact e_ri rfl rfl (by first | (simp only [eq_true h1, eq_false h2, eq_false h3, eq_true h4, if_true, if_true, if_false, not_true_eq_false, not_false_eq_true, and_true, true_and, and_false, false_and, or_true, true_or, or_false, false_or, reduceIte]; done) | (simp only [eq_true h1, eq_false h2, eq_false h3, eq_true h4, if_true, if_true, if_false, not_true_eq_false, not_false_eq_true, and_true, true_and, and_false, false_and, or_true, true_or, or_false, false_or, reduceIte]; rfl) | rfl) (by first | (simp only [eq_true h1, eq_false h2, eq_false h3, eq_true h4, if_true, if_true, if_false, not_true_eq_false, not_false_eq_true, and_true, true_and, and_false, false_and, or_true, true_or, or_false, false_or, reduceIte]; done) | (simp only [eq_true h1, eq_false h2, eq_false h3, eq_true h4, if_true, if_true, if_false, not_true_eq_false, not_false_eq_true, and_true, true_and, and_false, false_and, or_true, true_or, or_false, false_or, reduceIte]; rfl) | rfl)
      · refine e_0 rfl ?_
        exact e_ri rfl rfl (by first | (simp only [eq_true h1, eq_false h2, eq_true h3, if_true, if_true, if_false, not_true_eq_false, not_false_eq_true, and_true, true_and, and_false, false_and, or_true, true_or, or_false, false_or, reduceIte]; done) | (simp only [eq_true h1, eq_false h2, eq_true h3, if_true, if_true, if_false, not_true_eq_false, not_false_eq_true, and_true, true_and, and_false, false_and, or_true, true_or, or_false, false_or, reduceIte]; rfl) | rfl) (by first | (simp only [eq_true h1, eq_false h2, eq_true h3, if_true, if_true, if_false, not_true_eq_false, not_false_eq_true, and_true, true_and, and_false, false_and, or_true, true_or, or_false, false_or, reduceIte]; done) | (simp only [eq_true h1, eq_false h2, eq_true h3, if_true, if_true, if_false, not_true_eq_false, not_false_eq_true, and_true, true_and, and_false, false_and, or_true, true_or, or_false, false_or, reduceIte]; rfl) | rfl)
    · refine e_0 rfl ?_
      exact e_ri rfl rfl (by first | (simp only [eq_true h1, eq_true h2, if_true, if_true, if_false, not_true_eq_false, not_false_eq_true, and_true, true_and, and_false, false_and, or_true, true_or, or_false, false_or, reduceIte]; done) | (simp only [eq_true h1, eq_true h2, if_true, if_true, if_false, not_true_eq_false, not_false_eq_true, and_true, true_and, and_false, false_and, or_true, true_or, or_false, false_or, reduceIte]; rfl) | rfl) (by first | (simp only [eq_true h1, eq_true h2, if_true, if_true, if_false, not_true_eq_false, not_false_eq_true, and_true, true_and, and_false, false_and, or_true, true_or, or_false, false_or, reduceIte]; done) | (simp only [eq_true h1, eq_true h2, if_true, if_true, if_false, not_true_eq_false, not_false_eq_true, and_true, true_and, and_false, false_and, or_true, true_or, or_false, false_or, reduceIte]; rfl) | rfl)
  · refine e_0 rfl ?_
    exact e_ri rfl rfl (by first | (simp only [eq_false h1, if_true, if_true, if_false, not_true_eq_false, not_false_eq_true, and_true, true_and, and_false, false_and, or_true, true_or, or_false, false_or, reduceIte]; done) | (simp only [eq_false h1, if_true, if_true, if_false, not_true_eq_false, not_false_eq_true, and_true, true_and, and_false, false_and, or_true, true_or, or_false, false_or, reduceIte]; rfl) | rfl) (by first | (simp only [eq_false h1, if_true, if_true, if_false, not_true_eq_false, not_false_eq_true, and_true, true_and, and_false, false_and, or_true, true_or, or_false, false_or, reduceIte]; done) | (simp only [eq_false h1, if_true, if_true, if_false, not_true_eq_false, not_false_eq_true, and_true, true_and, and_false, false_and, or_true, true_or, or_false, false_or, reduceIte]; rfl) | rfl)
theorem k_waterBehind (hp : isPs μ) (e0 : shG (ps_i μ) 4 = σ0) (hI : shI g σ0) (a : Int32) {N : Nat} (hN : N < 2 ^ 31) : ps_Ev (ps_XX L xs) (d + 7) j_X7_waterBehind [.ref 0, .int a, .int (nI N)] (SM μ 10 τ) (some (.int (againF g a N σ0 0))) (SM μ 10 (againF g a N σ0)) := by
  refine ⟨Nat.le_of_ble_eq_true rfl, ?_⟩
  have hg := hI.1.1
  have h8 := hI.1.2.1
  have h7 := hI.2.2.1
  have e8 : ps_i μ 4 8 = σ0 8 := by rw [← e0]; rfl
  have e5 : ps_i μ 4 5 = σ0 5 := by rw [← e0]; rfl
  have e2 : ps_i μ 4 2 = σ0 2 := by rw [← e0]; rfl
  refine e_4 rfl rfl ?_
  refine e_gr rfl (p_0 hp) rfl (p_f5 hp) ?_
  refine e_4 rfl rfl ?_
  refine e_gr rfl (p_0 hp) rfl (p_f4 hp) ?_
  refine e_v1v rfl (by first | exact p_0 hp | exact (p_ro hp (by omega)).1 | exact (p_sh10 hp).1 | exact (p_sh4 hp).1) rfl (by decide) rfl (Nat.le_of_ble_eq_true rfl) (k10_follow hp e0 h7) ?_
  refine e_4 rfl rfl ?_
  refine e_gr rfl (p_0 hp) rfl (p_f5 hp) ?_
  refine e_2 rfl rfl ?_
  refine e_2 rfl rfl ?_
  refine e_v2v rfl (by first | exact p_0 hp | exact (p_ro hp (by omega)).1 | exact (p_sh10 hp).1 | exact (p_sh4 hp).1) rfl (by decide) rfl (Nat.le_of_ble_eq_true rfl) (ss_passAgain (p_sh10 hp) hg h8 a hN) ?_
  refine e_4 rfl rfl ?_
  refine e_gr rfl (p_0 hp) rfl (p_f5 hp) ?_
  refine s_gi (p_sh10 hp) rfl rfl (by decide) (by decide) ?_
  exact e_ri rfl rfl (by rfl) (rfl)
theorem kq_inches (hp : isPs μ) (e0 : shG (ps_i μ) 4 = σ0) (hI : shI g σ0) (a b : Int32) {n : Int32} {N : Nat} (hn : ¬ n < 0 ∧ n ≤ 20 → n = nI N ∧ N ≤ 20) : evI (ps_XX L xs) (d + 8) j_X7_inches [.ref 0, .int a, .int b, .int n] (SM μ 10 τ) (if ¬ (actP a ∧ actP b ∧ ¬ n < 0 ∧ n ≤ 20) then (-1, SM μ 10 τ) else if σ0 8 = 0 then (-4, SM μ 10 τ) else (1, ps_sI (SM μ 10 (againF g a N σ0)) 0 11 (againF g b N σ0 0 - againF g a N σ0 0))) := by
  refine ⟨Nat.le_of_ble_eq_true rfl, ?_⟩
  have hg := hI.1.1
  have h8 := hI.1.2.1
  have h7 := hI.2.2.1
  have e8 : ps_i μ 4 8 = σ0 8 := by rw [← e0]; rfl
  have e5 : ps_i μ 4 5 = σ0 5 := by rw [← e0]; rfl
  have e2 : ps_i μ 4 2 = σ0 2 := by rw [← e0]; rfl
  refine e_2 rfl rfl ?_
  refine e_s1 rfl rfl rfl (Nat.le_of_ble_eq_true rfl) (k_isAct _) ?_
  refine e_30b rfl (fun h1 => ?_) (fun h1 => ?_)
  · refine e_0 rfl ?_
    exact e_ri rfl rfl (by first | (simp only [eq_false h1, if_true, if_true, if_false, not_true_eq_false, not_false_eq_true, and_true, true_and, and_false, false_and, or_true, true_or, or_false, false_or, reduceIte]; done) | (simp only [eq_false h1, if_true, if_true, if_false, not_true_eq_false, not_false_eq_true, and_true, true_and, and_false, false_and, or_true, true_or, or_false, false_or, reduceIte]; rfl) | rfl) (by first | (simp only [eq_false h1, if_true, if_true, if_false, not_true_eq_false, not_false_eq_true, and_true, true_and, and_false, false_and, or_true, true_or, or_false, false_or, reduceIte]; done) | (simp only [eq_false h1, if_true, if_true, if_false, not_true_eq_false, not_false_eq_true, and_true, true_and, and_false, false_and, or_true, true_or, or_false, false_or, reduceIte]; rfl) | rfl)
  · refine e_2 rfl rfl ?_
    refine e_s1 rfl rfl rfl (Nat.le_of_ble_eq_true rfl) (k_isAct _) ?_
    refine e_30b rfl (fun h2 => ?_) (fun h2 => ?_)
    · refine e_0 rfl ?_
      exact e_ri rfl rfl (by first | (simp only [eq_true h1, eq_false h2, if_true, if_true, if_false, not_true_eq_false, not_false_eq_true, and_true, true_and, and_false, false_and, or_true, true_or, or_false, false_or, reduceIte]; done) | (simp only [eq_true h1, eq_false h2, if_true, if_true, if_false, not_true_eq_false, not_false_eq_true, and_true, true_and, and_false, false_and, or_true, true_or, or_false, false_or, reduceIte]; rfl) | rfl) (by first | (simp only [eq_true h1, eq_false h2, if_true, if_true, if_false, not_true_eq_false, not_false_eq_true, and_true, true_and, and_false, false_and, or_true, true_or, or_false, false_or, reduceIte]; done) | (simp only [eq_true h1, eq_false h2, if_true, if_true, if_false, not_true_eq_false, not_false_eq_true, and_true, true_and, and_false, false_and, or_true, true_or, or_false, false_or, reduceIte]; rfl) | rfl)
    · refine e_2 rfl rfl ?_
      refine e_32 rfl (fun h3 => ?_) (fun h3 => ?_)
      · refine e_0 rfl ?_
        exact e_ri rfl rfl (by first | (simp only [eq_true h1, eq_true h2, eq_true h3, if_true, if_true, if_false, not_true_eq_false, not_false_eq_true, and_true, true_and, and_false, false_and, or_true, true_or, or_false, false_or, reduceIte]; done) | (simp only [eq_true h1, eq_true h2, eq_true h3, if_true, if_true, if_false, not_true_eq_false, not_false_eq_true, and_true, true_and, and_false, false_and, or_true, true_or, or_false, false_or, reduceIte]; rfl) | rfl) (by first | (simp only [eq_true h1, eq_true h2, eq_true h3, if_true, if_true, if_false, not_true_eq_false, not_false_eq_true, and_true, true_and, and_false, false_and, or_true, true_or, or_false, false_or, reduceIte]; done) | (simp only [eq_true h1, eq_true h2, eq_true h3, if_true, if_true, if_false, not_true_eq_false, not_false_eq_true, and_true, true_and, and_false, false_and, or_true, true_or, or_false, false_or, reduceIte]; rfl) | rfl)
      · refine e_2 rfl rfl ?_
        refine e_0 rfl ?_
        refine e_41 rfl (fun h4 => ?_) (fun h4 => ?_)
        · obtain ⟨rfl, hN20⟩ := hn ⟨h3, h4⟩
          refine e_4 rfl rfl ?_
          refine e_gr rfl (p_0 hp) rfl (p_f4 hp) ?_
          refine e_gi rfl (p_sh4 hp).1 rfl (by decide) ?_
          rw [SM_off (by omega), e8]
          refine e_31 rfl (fun h5 => ?_) (fun h5 => ?_)
          · refine e_4 rfl rfl ?_
            refine e_4 rfl rfl ?_
            refine e_2 rfl rfl ?_
            refine e_2 rfl rfl ?_
            refine e_v2 rfl (by first | exact p_0 hp | exact (p_ro hp (by omega)).1 | exact (p_sh10 hp).1 | exact (p_sh4 hp).1) rfl (by decide) rfl (Nat.le_of_ble_eq_true rfl) (k_waterBehind hp e0 hI _ (by omega)) ?_
            refine e_4 rfl rfl ?_
            refine e_2 rfl rfl ?_
            refine e_2 rfl rfl ?_
            refine e_v2 rfl (by first | exact p_0 hp | exact (p_ro hp (by omega)).1 | exact (p_sh10 hp).1 | exact (p_sh4 hp).1) rfl (by decide) rfl (Nat.le_of_ble_eq_true rfl) (k_waterBehind hp e0 hI _ (by omega)) ?_
            refine e_10 rfl ?_
            refine e_pi rfl (p_0 hp) rfl (Or.inl rfl) ?_
            refine e_0 rfl ?_
            exact e_ri rfl rfl (by first | (simp only [eq_true h1, eq_true h2, eq_false h3, eq_true h4, eq_false h5, if_true, if_true, if_false, not_true_eq_false, not_false_eq_true, and_true, true_and, and_false, false_and, or_true, true_or, or_false, false_or, reduceIte]; done) | (simp only [eq_true h1, eq_true h2, eq_false h3, eq_true h4, eq_false h5, if_true, if_true, if_false, not_true_eq_false, not_false_eq_true, and_true, true_and, and_false, false_and, or_true, true_or, or_false, false_or, reduceIte]; rfl) | rfl) (by first | (simp only [eq_true h1, eq_true h2, eq_false h3, eq_true h4, eq_false h5, if_true, if_true, if_false, not_true_eq_false, not_false_eq_true, and_true, true_and, and_false, false_and, or_true, true_or, or_false, false_or, reduceIte]; done) | (simp only [eq_true h1, eq_true h2, eq_false h3, eq_true h4, eq_false h5, if_true, if_true, if_false, not_true_eq_false, not_false_eq_true, and_true, true_and, and_false, false_and, or_true, true_or, or_false, false_or, reduceIte]; rfl) | rfl)
          · refine e_0 rfl ?_
            exact e_ri rfl rfl (by first | (simp only [eq_true h1, eq_true h2, eq_false h3, eq_true h4, eq_true h5, if_true, if_true, if_false, not_true_eq_false, not_false_eq_true, and_true, true_and, and_false, false_and, or_true, true_or, or_false, false_or, reduceIte]; done) | (simp only [eq_true h1, eq_true h2, eq_false h3, eq_true h4, eq_true h5, if_true, if_true, if_false, not_true_eq_false, not_false_eq_true, and_true, true_and, and_false, false_and, or_true, true_or, or_false, false_or, reduceIte]; rfl) | rfl) (by first | (simp only [eq_true h1, eq_true h2, eq_false h3, eq_true h4, eq_true h5, if_true, if_true, if_false, not_true_eq_false, not_false_eq_true, and_true, true_and, and_false, false_and, or_true, true_or, or_false, false_or, reduceIte]; done) | (simp only [eq_true h1, eq_true h2, eq_false h3, eq_true h4, eq_true h5, if_true, if_true, if_false, not_true_eq_false, not_false_eq_true, and_true, true_and, and_false, false_and, or_true, true_or, or_false, false_or, reduceIte]; rfl) | rfl)
        · refine e_0 rfl ?_
          exact e_ri rfl rfl (by first | (simp only [eq_true h1, eq_true h2, eq_false h3, eq_false h4, if_true, if_true, if_false, not_true_eq_false, not_false_eq_true, and_true, true_and, and_false, false_and, or_true, true_or, or_false, false_or, reduceIte]; done) | (simp only [eq_true h1, eq_true h2, eq_false h3, eq_false h4, if_true, if_true, if_false, not_true_eq_false, not_false_eq_true, and_true, true_and, and_false, false_and, or_true, true_or, or_false, false_or, reduceIte]; rfl) | rfl) (by first | (simp only [eq_true h1, eq_true h2, eq_false h3, eq_false h4, if_true, if_true, if_false, not_true_eq_false, not_false_eq_true, and_true, true_and, and_false, false_and, or_true, true_or, or_false, false_or, reduceIte]; done) | (simp only [eq_true h1, eq_true h2, eq_false h3, eq_false h4, if_true, if_true, if_false, not_true_eq_false, not_false_eq_true, and_true, true_and, and_false, false_and, or_true, true_or, or_false, false_or, reduceIte]; rfl) | rfl)
theorem k_light_loop (hp : isPs μ) (e0 : shG (ps_i μ) 4 = σ0) (hI : shI g σ0) (a : Int32) {c : Nat} (hc : c ≤ 9) (ec : σ0 2 = nI c) : ∀ (n i : Nat) (τ : Nat → Int32), i + n = c + 1 → ps_To (ps_XX L xs) (ps_Ev (ps_XX L xs) (d + 6)) j_X7_lighten (ps_rt j_X7_lighten (some (.int (lightF g a σ0 n i τ).1)) (SM μ 10 (lightF g a σ0 n i τ).2)) (24, [(2, .int (nI i)), (0, .ref (0)), (1, .int (a))], [], SM μ 10 τ) := by
  intro n
  induction n with
  | zero =>
    intro i τ hi
    obtain rfl : i = c + 1 := by omega
    have hg := hI.1.1
    have h8 := hI.1.2.1
    have h7 := hI.2.2.1
    have e8 : ps_i μ 4 8 = σ0 8 := by rw [← e0]; rfl
    have e5 : ps_i μ 4 5 = σ0 5 := by rw [← e0]; rfl
    have e2 : ps_i μ 4 2 = σ0 2 := by rw [← e0]; rfl
    refine e_2 rfl rfl ?_
    refine e_4 rfl rfl ?_
    refine e_gr rfl (p_0 hp) rfl (p_f4 hp) ?_
    refine e_gi rfl (p_sh4 hp).1 rfl (by decide) ?_
    rw [SM_off (by omega), e2, ec]
    refine e_40 rfl (fun h1 => ?_) (fun h1 => ?_)
    · refine e_0 rfl ?_
      exact e_ri rfl rfl (by first | (simp only [lightF, eq_true h1, if_true, if_true, if_false, not_true_eq_false, not_false_eq_true, and_true, true_and, and_false, false_and, or_true, true_or, or_false, false_or, Int32.add_zero]; done) | (simp only [lightF, eq_true h1, if_true, if_true, if_false, not_true_eq_false, not_false_eq_true, and_true, true_and, and_false, false_and, or_true, true_or, or_false, false_or, Int32.add_zero]; rfl) | rfl) (by first | (simp only [lightF, eq_true h1, if_true, if_true, if_false, not_true_eq_false, not_false_eq_true, and_true, true_and, and_false, false_and, or_true, true_or, or_false, false_or, Int32.add_zero]; done) | (simp only [lightF, eq_true h1, if_true, if_true, if_false, not_true_eq_false, not_false_eq_true, and_true, true_and, and_false, false_and, or_true, true_or, or_false, false_or, Int32.add_zero]; rfl) | rfl)
    · exact absurd (nI_lt (by omega) (by omega)) h1
  | succ n ih =>
    intro i τ hi
    have hg := hI.1.1
    have h8 := hI.1.2.1
    have h7 := hI.2.2.1
    have e8 : ps_i μ 4 8 = σ0 8 := by rw [← e0]; rfl
    have e5 : ps_i μ 4 5 = σ0 5 := by rw [← e0]; rfl
    have e2 : ps_i μ 4 2 = σ0 2 := by rw [← e0]; rfl
    have h8l : litS σ0 i 8 = nI g := by unfold litS; rw [pk_un (by omega), pk_un (by omega)]; exact h8
    refine e_2 rfl rfl ?_
    refine e_4 rfl rfl ?_
    refine e_gr rfl (p_0 hp) rfl (p_f4 hp) ?_
    refine e_gi rfl (p_sh4 hp).1 rfl (by decide) ?_
    rw [SM_off (by omega), e2, ec]
    refine e_40 rfl (fun h1 => ?_) (fun h1 => ?_)
    · exact absurd h1 (nI_nlt (by omega) (by omega))
    · refine e_4 rfl rfl ?_
      refine e_gr rfl (p_0 hp) rfl (p_f5 hp) ?_
      refine e_4 rfl rfl ?_
      refine e_gr rfl (p_0 hp) rfl (p_f4 hp) ?_
      refine e_v1v rfl (by first | exact p_0 hp | exact (p_ro hp (by omega)).1 | exact (p_sh10 hp).1 | exact (p_sh4 hp).1) rfl (by decide) rfl (Nat.le_of_ble_eq_true rfl) (k10_follow hp e0 h7) ?_
      refine e_4 rfl rfl ?_
      refine e_gr rfl (p_0 hp) rfl (p_f5 hp) ?_
      refine e_28 rfl rfl ?_
      refine s_gi (p_sh10 hp) rfl rfl (by decide) (by decide) ?_
      refine e_2 rfl rfl ?_
      refine e_10 rfl ?_
      refine s_pi (p_sh10 hp) rfl rfl (Or.inl rfl) (by decide) ?_
      refine e_4 rfl rfl ?_
      refine e_gr rfl (p_0 hp) rfl (p_f5 hp) ?_
      refine e_28 rfl rfl ?_
      refine s_gi (p_sh10 hp) rfl rfl (by decide) (by decide) ?_
      refine e_2 rfl rfl ?_
      refine e_9 rfl ?_
      refine s_pi (p_sh10 hp) rfl rfl (Or.inl rfl) (by decide) ?_
      refine e_4 rfl rfl ?_
      refine e_gr rfl (p_0 hp) rfl (p_f5 hp) ?_
      refine e_2 rfl rfl ?_
      refine e_0 rfl ?_
      refine e_v2v rfl (by first | exact p_0 hp | exact (p_ro hp (by omega)).1 | exact (p_sh10 hp).1 | exact (p_sh4 hp).1) rfl (by decide) rfl (Nat.le_of_ble_eq_true rfl) (ss_passAgain (σ := litS σ0 i) (p_sh10 hp) hg h8l a (N := 40) (by omega)) ?_
      refine e_4 rfl rfl ?_
      refine e_gr rfl (p_0 hp) rfl (p_f5 hp) ?_
      refine e_v0 rfl (by first | exact p_0 hp | exact (p_ro hp (by omega)).1 | exact (p_sh10 hp).1 | exact (p_sh4 hp).1) rfl (by decide) rfl (Nat.le_of_ble_eq_true rfl) (ss_isSunk (p_sh10 hp)) ?_
      refine e_31b rfl (fun h2 => ?_) (fun h2 => ?_)
      · refine e_8 rfl rfl rfl ?_
        refine e_42 rfl ?_
        refine e_lv [0, 1, 2] rfl rfl ?_
        show ps_To _ _ _ _ (24, [(2, .int _), (0, .ref _), (1, .int _)], [], _)
        rw [nI_1]
        have h := ih (i + 1) (againF g a 40 (litS σ0 i)) (by omega)
        simp only [lightF, eq_false h1, eq_true h2, if_true, if_true, if_false, not_true_eq_false, not_false_eq_true, and_true, true_and, and_false, false_and, or_true, true_or, or_false, false_or, Int32.add_zero]
        exact h
      · refine e_2 rfl rfl ?_
        exact e_ri rfl rfl (by first | (simp only [lightF, eq_false h1, eq_false h2, if_true, if_true, if_false, not_true_eq_false, not_false_eq_true, and_true, true_and, and_false, false_and, or_true, true_or, or_false, false_or, Int32.add_zero]; done) | (simp only [lightF, eq_false h1, eq_false h2, if_true, if_true, if_false, not_true_eq_false, not_false_eq_true, and_true, true_and, and_false, false_and, or_true, true_or, or_false, false_or, Int32.add_zero]; rfl) | rfl) (by first | (simp only [lightF, eq_false h1, eq_false h2, if_true, if_true, if_false, not_true_eq_false, not_false_eq_true, and_true, true_and, and_false, false_and, or_true, true_or, or_false, false_or, Int32.add_zero]; done) | (simp only [lightF, eq_false h1, eq_false h2, if_true, if_true, if_false, not_true_eq_false, not_false_eq_true, and_true, true_and, and_false, false_and, or_true, true_or, or_false, false_or, Int32.add_zero]; rfl) | rfl)
theorem kq_lighten (hp : isPs μ) (e0 : shG (ps_i μ) 4 = σ0) (hI : shI g σ0) (a : Int32) {c : Nat} (hc : c ≤ 9) (ec : σ0 2 = nI c) : evI (ps_XX L xs) (d + 7) j_X7_lighten [.ref 0, .int a] (SM μ 10 τ) (if ¬ actP a then (-1, SM μ 10 τ) else if σ0 8 = 0 then (-4, SM μ 10 τ) else ((lightF g a σ0 (c + 1) 0 τ).1, SM μ 10 (lightF g a σ0 (c + 1) 0 τ).2)) := by
  refine ⟨Nat.le_of_ble_eq_true rfl, ?_⟩
  have hg := hI.1.1
  have h8 := hI.1.2.1
  have h7 := hI.2.2.1
  have e8 : ps_i μ 4 8 = σ0 8 := by rw [← e0]; rfl
  have e5 : ps_i μ 4 5 = σ0 5 := by rw [← e0]; rfl
  have e2 : ps_i μ 4 2 = σ0 2 := by rw [← e0]; rfl
  refine e_2 rfl rfl ?_
  refine e_s1 rfl rfl rfl (Nat.le_of_ble_eq_true rfl) (k_isAct _) ?_
  refine e_31b rfl (fun h1 => ?_) (fun h1 => ?_)
  · refine e_4 rfl rfl ?_
    refine e_gr rfl (p_0 hp) rfl (p_f4 hp) ?_
    refine e_gi rfl (p_sh4 hp).1 rfl (by decide) ?_
    rw [SM_off (by omega), e8]
    refine e_31 rfl (fun h2 => ?_) (fun h2 => ?_)
    · refine e_0 rfl ?_
      refine e_5 rfl rfl ?_
      simp only [eq_true h1, eq_false h2, if_true, if_true, if_false, not_true_eq_false, not_false_eq_true, and_true, true_and, and_false, false_and, or_true, true_or, or_false, false_or, reduceIte]
      exact k_light_loop (L := L) (xs := xs) (d := d) hp e0 hI a hc ec (c + 1) 0 τ (by omega)
    · refine e_0 rfl ?_
      exact e_ri rfl rfl (by first | (simp only [eq_true h1, eq_true h2, if_true, if_true, if_false, not_true_eq_false, not_false_eq_true, and_true, true_and, and_false, false_and, or_true, true_or, or_false, false_or, reduceIte]; done) | (simp only [eq_true h1, eq_true h2, if_true, if_true, if_false, not_true_eq_false, not_false_eq_true, and_true, true_and, and_false, false_and, or_true, true_or, or_false, false_or, reduceIte]; rfl) | rfl) (by first | (simp only [eq_true h1, eq_true h2, if_true, if_true, if_false, not_true_eq_false, not_false_eq_true, and_true, true_and, and_false, false_and, or_true, true_or, or_false, false_or, reduceIte]; done) | (simp only [eq_true h1, eq_true h2, if_true, if_true, if_false, not_true_eq_false, not_false_eq_true, and_true, true_and, and_false, false_and, or_true, true_or, or_false, false_or, reduceIte]; rfl) | rfl)
  · refine e_0 rfl ?_
    exact e_ri rfl rfl (by first | (simp only [eq_false h1, if_true, if_true, if_false, not_true_eq_false, not_false_eq_true, and_true, true_and, and_false, false_and, or_true, true_or, or_false, false_or, reduceIte]; done) | (simp only [eq_false h1, if_true, if_true, if_false, not_true_eq_false, not_false_eq_true, and_true, true_and, and_false, false_and, or_true, true_or, or_false, false_or, reduceIte]; rfl) | rfl) (by first | (simp only [eq_false h1, if_true, if_true, if_false, not_true_eq_false, not_false_eq_true, and_true, true_and, and_false, false_and, or_true, true_or, or_false, false_or, reduceIte]; done) | (simp only [eq_false h1, if_true, if_true, if_false, not_true_eq_false, not_false_eq_true, and_true, true_and, and_false, false_and, or_true, true_or, or_false, false_or, reduceIte]; rfl) | rfl)
end KQ3
