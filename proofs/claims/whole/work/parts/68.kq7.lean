-- ===== the class: counts and digest =====
def countC (μ : ps_M) (g : Nat) (σ : Nat → Int32) (what : Int32) : Int32 := if what = 0 then σ 8 else if what = 1 then σ 0 else if what = 2 then σ 5 else if what = 3 then psum (fun k => σ (21 + k)) g else if what = 4 then cntN (fun k => isOfF (σ (9 + k)) 1) g else if what = 5 then cntN (fun k => isOfF (σ (9 + k)) 2) g else if what = 6 then cntN (fun k => 0 ≤ ps_i μ (45 + 2 * k) 0) 6 else if what = 7 then cntN (fun k => 0 ≤ ps_i μ (57 + 2 * k) 0) 4 else cntN (fun k => ¬ ps_i μ (65 + 6 * k) 1 = 0) 3
section KQ7
variable {L : Nat} {xs : Nat → Int32} {d : Nat} {μ : ps_M} {σ : Nat → Int32} {g : Nat}
theorem k_countRows_loop (hp : isPs μ) : ∀ (n i : Nat), i + n = 6 → ps_To (ps_XX L xs) (ps_Ev (ps_XX L xs) (d + 1)) j_X7_countRows (ps_rt j_X7_countRows (some (.int (cntN (fun k => 0 ≤ ps_i μ (45 + 2 * k) 0) 6))) (SM μ 4 σ)) (4, [(2, .int (nI i)), (1, .int (cntN (fun k => 0 ≤ ps_i μ (45 + 2 * k) 0) i)), (0, .ref (0))], [], SM μ 4 σ) := by
  intro n
  induction n with
  | zero =>
    intro i hi
    obtain rfl : i = 6 := by omega
    skip
    refine e_2 rfl rfl ?_
    refine e_0 rfl ?_
    refine e_39 rfl (fun h1 => ?_) (fun h1 => ?_)
    · refine e_2 rfl rfl ?_
      exact e_ri rfl rfl (by rfl) (rfl)
    · exact absurd (show nI 6 ≤ nI 6 from nI_le (Nat.le_refl _) (by omega)) h1
  | succ n ih =>
    intro i hi
    refine e_2 rfl rfl ?_
    refine e_0 rfl ?_
    refine e_39 rfl (fun h1 => ?_) (fun h1 => ?_)
    · exact absurd (show nI 6 ≤ nI i from h1) (nI_ge (by omega) (by omega))
    · refine e_2 rfl rfl ?_
      refine e_4 rfl rfl ?_
      refine e_gr rfl (p_0 hp) rfl (p_f0 hp) ?_
      refine e_2 rfl rfl ?_
      refine e_gaq (i := i) rfl (p_1 hp) (by decide) (by decide) (by first | rfl | (simp only [← nI_add, ← pk_mul]; rfl) | (simp only [nI_add, pk_mul, nI_1]; done)) (by omega) (by decide) (p_r1 hp (by omega)) ?_
      refine e_v0 rfl (by first | exact p_0 hp | exact (p_ro hp (k := i) (by omega)).1 | exact (p_tx hp (k := i) (by omega)).1 | exact (p_vo hp (k := i) (by omega)).1) rfl (by decide) rfl (Nat.le_of_ble_eq_true rfl) (by have z := kr_isMissing (L := L) (xs := xs) (d := d) (μ := SM μ 4 σ) (r := 45 + 2 * i) (by exact p_ro hp (by omega)); rw [SM_off (by omega)] at z; exact z) ?_
      refine e_30b rfl (fun h2 => ?_) (fun h2 => ?_)
      · refine e_0 rfl ?_
        refine e_9 rfl ?_
        refine e_5 rfl rfl ?_
        refine e_8 rfl rfl rfl ?_
        refine e_42 rfl ?_
        refine e_lv [0, 1, 2] rfl rfl ?_
        show ps_To _ _ _ _ (4, [(2, .int _), (1, .int _), (0, .ref _)], [], _)
        have e : cntN (fun k => 0 ≤ ps_i μ (45 + 2 * k) 0) (i + 1) = cntN (fun k => 0 ≤ ps_i μ (45 + 2 * k) 0) i + 1 := congrArg (cntN (fun k => 0 ≤ ps_i μ (45 + 2 * k) 0) i + ·) (if_pos (Classical.not_not.mp h2))
        rw [nI_1, ← e]
        exact ih (i + 1) (by omega)
      · refine e_0 rfl ?_
        refine e_42 rfl ?_
        refine e_9 rfl ?_
        refine e_5 rfl rfl ?_
        refine e_8 rfl rfl rfl ?_
        refine e_42 rfl ?_
        refine e_lv [0, 1, 2] rfl rfl ?_
        show ps_To _ _ _ _ (4, [(2, .int _), (1, .int _), (0, .ref _)], [], _)
        have e : cntN (fun k => 0 ≤ ps_i μ (45 + 2 * k) 0) (i + 1) = cntN (fun k => 0 ≤ ps_i μ (45 + 2 * k) 0) i + 0 := congrArg (cntN (fun k => 0 ≤ ps_i μ (45 + 2 * k) 0) i + ·) (if_neg h2)
        rw [nI_1, ← e]
        exact ih (i + 1) (by omega)
theorem k_countRows (hp : isPs μ) : ps_Ev (ps_XX L xs) (d + 2) j_X7_countRows [.ref 0] (SM μ 4 σ) (some (.int (cntN (fun k => 0 ≤ ps_i μ (45 + 2 * k) 0) 6))) (SM μ 4 σ) := by
  refine ⟨Nat.le_of_ble_eq_true rfl, ?_⟩
  refine e_0 rfl ?_
  refine e_5 rfl rfl ?_
  refine e_0 rfl ?_
  refine e_5 rfl rfl ?_
  exact k_countRows_loop (L := L) (xs := xs) (d := d) hp 6 0 (by omega)
theorem k_countTexts_loop (hp : isPs μ) : ∀ (n i : Nat), i + n = 4 → ps_To (ps_XX L xs) (ps_Ev (ps_XX L xs) (d + 1)) j_X7_countTexts (ps_rt j_X7_countTexts (some (.int (cntN (fun k => 0 ≤ ps_i μ (57 + 2 * k) 0) 4))) (SM μ 4 σ)) (4, [(2, .int (nI i)), (1, .int (cntN (fun k => 0 ≤ ps_i μ (57 + 2 * k) 0) i)), (0, .ref (0))], [], SM μ 4 σ) := by
  intro n
  induction n with
  | zero =>
    intro i hi
    obtain rfl : i = 4 := by omega
    skip
    refine e_2 rfl rfl ?_
    refine e_0 rfl ?_
    refine e_39 rfl (fun h1 => ?_) (fun h1 => ?_)
    · refine e_2 rfl rfl ?_
      exact e_ri rfl rfl (by rfl) (rfl)
    · exact absurd (show nI 4 ≤ nI 4 from nI_le (Nat.le_refl _) (by omega)) h1
  | succ n ih =>
    intro i hi
    refine e_2 rfl rfl ?_
    refine e_0 rfl ?_
    refine e_39 rfl (fun h1 => ?_) (fun h1 => ?_)
    · exact absurd (show nI 4 ≤ nI i from h1) (nI_ge (by omega) (by omega))
    · refine e_2 rfl rfl ?_
      refine e_4 rfl rfl ?_
      refine e_gr rfl (p_0 hp) rfl (p_f1 hp) ?_
      refine e_2 rfl rfl ?_
      refine e_gaq (i := i) rfl (p_2 hp) (by decide) (by decide) (by first | rfl | (simp only [← nI_add, ← pk_mul]; rfl) | (simp only [nI_add, pk_mul, nI_1]; done)) (by omega) (by decide) (p_r2 hp (by omega)) ?_
      refine e_v0 rfl (by first | exact p_0 hp | exact (p_ro hp (k := i) (by omega)).1 | exact (p_tx hp (k := i) (by omega)).1 | exact (p_vo hp (k := i) (by omega)).1) rfl (by decide) rfl (Nat.le_of_ble_eq_true rfl) (by have z := kt_isMissing (L := L) (xs := xs) (d := d) (μ := SM μ 4 σ) (r := 57 + 2 * i) (by exact p_tx hp (by omega)); rw [SM_off (by omega)] at z; exact z) ?_
      refine e_30b rfl (fun h2 => ?_) (fun h2 => ?_)
      · refine e_0 rfl ?_
        refine e_9 rfl ?_
        refine e_5 rfl rfl ?_
        refine e_8 rfl rfl rfl ?_
        refine e_42 rfl ?_
        refine e_lv [0, 1, 2] rfl rfl ?_
        show ps_To _ _ _ _ (4, [(2, .int _), (1, .int _), (0, .ref _)], [], _)
        have e : cntN (fun k => 0 ≤ ps_i μ (57 + 2 * k) 0) (i + 1) = cntN (fun k => 0 ≤ ps_i μ (57 + 2 * k) 0) i + 1 := congrArg (cntN (fun k => 0 ≤ ps_i μ (57 + 2 * k) 0) i + ·) (if_pos (Classical.not_not.mp h2))
        rw [nI_1, ← e]
        exact ih (i + 1) (by omega)
      · refine e_0 rfl ?_
        refine e_42 rfl ?_
        refine e_9 rfl ?_
        refine e_5 rfl rfl ?_
        refine e_8 rfl rfl rfl ?_
        refine e_42 rfl ?_
        refine e_lv [0, 1, 2] rfl rfl ?_
        show ps_To _ _ _ _ (4, [(2, .int _), (1, .int _), (0, .ref _)], [], _)
        have e : cntN (fun k => 0 ≤ ps_i μ (57 + 2 * k) 0) (i + 1) = cntN (fun k => 0 ≤ ps_i μ (57 + 2 * k) 0) i + 0 := congrArg (cntN (fun k => 0 ≤ ps_i μ (57 + 2 * k) 0) i + ·) (if_neg h2)
        rw [nI_1, ← e]
        exact ih (i + 1) (by omega)
theorem k_countTexts (hp : isPs μ) : ps_Ev (ps_XX L xs) (d + 2) j_X7_countTexts [.ref 0] (SM μ 4 σ) (some (.int (cntN (fun k => 0 ≤ ps_i μ (57 + 2 * k) 0) 4))) (SM μ 4 σ) := by
  refine ⟨Nat.le_of_ble_eq_true rfl, ?_⟩
  refine e_0 rfl ?_
  refine e_5 rfl rfl ?_
  refine e_0 rfl ?_
  refine e_5 rfl rfl ?_
  exact k_countTexts_loop (L := L) (xs := xs) (d := d) hp 4 0 (by omega)
theorem k_countKept_loop (hp : isPs μ) : ∀ (n i : Nat), i + n = 3 → ps_To (ps_XX L xs) (ps_Ev (ps_XX L xs) (d + 1)) j_X7_countKept (ps_rt j_X7_countKept (some (.int (cntN (fun k => ¬ ps_i μ (65 + 6 * k) 1 = 0) 3))) (SM μ 4 σ)) (4, [(2, .int (nI i)), (1, .int (cntN (fun k => ¬ ps_i μ (65 + 6 * k) 1 = 0) i)), (0, .ref (0))], [], SM μ 4 σ) := by
  intro n
  induction n with
  | zero =>
    intro i hi
    obtain rfl : i = 3 := by omega
    skip
    refine e_2 rfl rfl ?_
    refine e_0 rfl ?_
    refine e_39 rfl (fun h1 => ?_) (fun h1 => ?_)
    · refine e_2 rfl rfl ?_
      exact e_ri rfl rfl (by rfl) (rfl)
    · exact absurd (show nI 3 ≤ nI 3 from nI_le (Nat.le_refl _) (by omega)) h1
  | succ n ih =>
    intro i hi
    refine e_2 rfl rfl ?_
    refine e_0 rfl ?_
    refine e_39 rfl (fun h1 => ?_) (fun h1 => ?_)
    · exact absurd (show nI 3 ≤ nI i from h1) (nI_ge (by omega) (by omega))
    · refine e_2 rfl rfl ?_
      refine e_4 rfl rfl ?_
      refine e_gr rfl (p_0 hp) rfl (p_f3 hp) ?_
      refine e_2 rfl rfl ?_
      refine e_gaq (i := i) rfl (p_9 hp) (by decide) (by decide) (by first | rfl | (simp only [← nI_add, ← pk_mul]; rfl) | (simp only [nI_add, pk_mul, nI_1]; done)) (by omega) (by decide) (p_r9 hp (by omega)) ?_
      refine e_gi rfl (p_vo hp (k := i) (by omega)).1 rfl (by decide) ?_
      rw [SM_off (by omega)]
      refine e_30 rfl (fun h2 => ?_) (fun h2 => ?_)
      · refine e_0 rfl ?_
        refine e_9 rfl ?_
        refine e_5 rfl rfl ?_
        refine e_8 rfl rfl rfl ?_
        refine e_42 rfl ?_
        refine e_lv [0, 1, 2] rfl rfl ?_
        show ps_To _ _ _ _ (4, [(2, .int _), (1, .int _), (0, .ref _)], [], _)
        have e : cntN (fun k => ¬ ps_i μ (65 + 6 * k) 1 = 0) (i + 1) = cntN (fun k => ¬ ps_i μ (65 + 6 * k) 1 = 0) i + 0 := congrArg (cntN (fun k => ¬ ps_i μ (65 + 6 * k) 1 = 0) i + ·) (if_neg (fun z => z h2))
        rw [nI_1, ← e]
        exact ih (i + 1) (by omega)
      · refine e_0 rfl ?_
        refine e_42 rfl ?_
        refine e_9 rfl ?_
        refine e_5 rfl rfl ?_
        refine e_8 rfl rfl rfl ?_
        refine e_42 rfl ?_
        refine e_lv [0, 1, 2] rfl rfl ?_
        show ps_To _ _ _ _ (4, [(2, .int _), (1, .int _), (0, .ref _)], [], _)
        have e : cntN (fun k => ¬ ps_i μ (65 + 6 * k) 1 = 0) (i + 1) = cntN (fun k => ¬ ps_i μ (65 + 6 * k) 1 = 0) i + 1 := congrArg (cntN (fun k => ¬ ps_i μ (65 + 6 * k) 1 = 0) i + ·) (if_pos h2)
        rw [nI_1, ← e]
        exact ih (i + 1) (by omega)
theorem k_countKept (hp : isPs μ) : ps_Ev (ps_XX L xs) (d + 2) j_X7_countKept [.ref 0] (SM μ 4 σ) (some (.int (cntN (fun k => ¬ ps_i μ (65 + 6 * k) 1 = 0) 3))) (SM μ 4 σ) := by
  refine ⟨Nat.le_of_ble_eq_true rfl, ?_⟩
  refine e_0 rfl ?_
  refine e_5 rfl rfl ?_
  refine e_0 rfl ?_
  refine e_5 rfl rfl ?_
  exact k_countKept_loop (L := L) (xs := xs) (d := d) hp 3 0 (by omega)
theorem k_tally (hp : isPs μ) (hok : shOK g σ) (what : Int32) : ps_Ev (ps_XX L xs) (d + 3) j_X7_tally [.ref 0, .int what] (SM μ 4 σ) (some (.int (countC μ g σ what))) (SM μ 4 σ) := by
  refine ⟨Nat.le_of_ble_eq_true rfl, ?_⟩
  have hg := hok.1
  have h8 := hok.2.1
  refine e_2 rfl rfl ?_
  refine e_sw rfl rfl (fun h1 => ?_) (fun k t ht h1 => ?_)
  · have h1n0 : ¬ what = 0 := fun q => by subst q; revert h1; decide
    have h1n1 : ¬ what = 1 := fun q => by subst q; revert h1; decide
    have h1n2 : ¬ what = 2 := fun q => by subst q; revert h1; decide
    have h1n3 : ¬ what = 3 := fun q => by subst q; revert h1; decide
    have h1n4 : ¬ what = 4 := fun q => by subst q; revert h1; decide
    have h1n5 : ¬ what = 5 := fun q => by subst q; revert h1; decide
    have h1n6 : ¬ what = 6 := fun q => by subst q; revert h1; decide
    have h1n7 : ¬ what = 7 := fun q => by subst q; revert h1; decide
    refine e_4 rfl rfl ?_
    refine e_v0 rfl (by first | exact p_0 hp | exact (p_sh4 hp).1) rfl (by decide) rfl (Nat.le_of_ble_eq_true rfl) (k_countKept hp) ?_
    exact e_ri rfl rfl (by unfold countC; first | rfl | (rw [if_neg h1n0, if_neg h1n1, if_neg h1n2, if_neg h1n3, if_neg h1n4, if_neg h1n5, if_neg h1n6, if_neg h1n7])) (rfl)
  · match k, ht with
    | 0, ht =>
      cases ht
      obtain rfl : what = 0 := Int32.toInt_inj.mp (h1.trans rfl)
      refine e_4 rfl rfl ?_
      refine e_gr rfl (p_0 hp) rfl (p_f4 hp) ?_
      refine s_gi (p_sh4 hp) rfl rfl (by decide) (by decide) ?_
      exact e_ri rfl rfl (by unfold countC; first | rfl | (rw [if_neg h1n0, if_neg h1n1, if_neg h1n2, if_neg h1n3, if_neg h1n4, if_neg h1n5, if_neg h1n6, if_neg h1n7])) (rfl)
    | 1, ht =>
      cases ht
      obtain rfl : what = 1 := Int32.toInt_inj.mp (h1.trans rfl)
      refine e_4 rfl rfl ?_
      refine e_gr rfl (p_0 hp) rfl (p_f4 hp) ?_
      refine s_gi (p_sh4 hp) rfl rfl (by decide) (by decide) ?_
      exact e_ri rfl rfl (by unfold countC; first | rfl | (rw [if_neg h1n0, if_neg h1n1, if_neg h1n2, if_neg h1n3, if_neg h1n4, if_neg h1n5, if_neg h1n6, if_neg h1n7])) (rfl)
    | 2, ht =>
      cases ht
      obtain rfl : what = 2 := Int32.toInt_inj.mp (h1.trans rfl)
      refine e_4 rfl rfl ?_
      refine e_gr rfl (p_0 hp) rfl (p_f4 hp) ?_
      refine s_gi (p_sh4 hp) rfl rfl (by decide) (by decide) ?_
      exact e_ri rfl rfl (by unfold countC; first | rfl | (rw [if_neg h1n0, if_neg h1n1, if_neg h1n2, if_neg h1n3, if_neg h1n4, if_neg h1n5, if_neg h1n6, if_neg h1n7])) (rfl)
    | 3, ht =>
      cases ht
      obtain rfl : what = 3 := Int32.toInt_inj.mp (h1.trans rfl)
      refine e_4 rfl rfl ?_
      refine e_gr rfl (p_0 hp) rfl (p_f4 hp) ?_
      refine e_v0 rfl (by first | exact p_0 hp | exact (p_sh4 hp).1) rfl (by decide) rfl (Nat.le_of_ble_eq_true rfl) (ss_sum (p_sh4 hp) hg h8) ?_
      exact e_ri rfl rfl (by unfold countC; first | rfl | (rw [if_neg h1n0, if_neg h1n1, if_neg h1n2, if_neg h1n3, if_neg h1n4, if_neg h1n5, if_neg h1n6, if_neg h1n7])) (rfl)
    | 4, ht =>
      cases ht
      obtain rfl : what = 4 := Int32.toInt_inj.mp (h1.trans rfl)
      refine e_4 rfl rfl ?_
      refine e_gr rfl (p_0 hp) rfl (p_f4 hp) ?_
      refine e_0 rfl ?_
      refine e_v1 rfl (by first | exact p_0 hp | exact (p_sh4 hp).1) rfl (by decide) rfl (Nat.le_of_ble_eq_true rfl) (ss_cnt (p_sh4 hp) hg h8 _) ?_
      exact e_ri rfl rfl (by unfold countC; first | rfl | (rw [if_neg h1n0, if_neg h1n1, if_neg h1n2, if_neg h1n3, if_neg h1n4, if_neg h1n5, if_neg h1n6, if_neg h1n7])) (rfl)
    | 5, ht =>
      cases ht
      obtain rfl : what = 5 := Int32.toInt_inj.mp (h1.trans rfl)
      refine e_4 rfl rfl ?_
      refine e_gr rfl (p_0 hp) rfl (p_f4 hp) ?_
      refine e_0 rfl ?_
      refine e_v1 rfl (by first | exact p_0 hp | exact (p_sh4 hp).1) rfl (by decide) rfl (Nat.le_of_ble_eq_true rfl) (ss_cnt (p_sh4 hp) hg h8 _) ?_
      exact e_ri rfl rfl (by unfold countC; first | rfl | (rw [if_neg h1n0, if_neg h1n1, if_neg h1n2, if_neg h1n3, if_neg h1n4, if_neg h1n5, if_neg h1n6, if_neg h1n7])) (rfl)
    | 6, ht =>
      cases ht
      obtain rfl : what = 6 := Int32.toInt_inj.mp (h1.trans rfl)
      refine e_4 rfl rfl ?_
      refine e_v0 rfl (by first | exact p_0 hp | exact (p_sh4 hp).1) rfl (by decide) rfl (Nat.le_of_ble_eq_true rfl) (k_countRows hp) ?_
      exact e_ri rfl rfl (by unfold countC; first | rfl | (rw [if_neg h1n0, if_neg h1n1, if_neg h1n2, if_neg h1n3, if_neg h1n4, if_neg h1n5, if_neg h1n6, if_neg h1n7])) (rfl)
    | 7, ht =>
      cases ht
      obtain rfl : what = 7 := Int32.toInt_inj.mp (h1.trans rfl)
      refine e_4 rfl rfl ?_
      refine e_v0 rfl (by first | exact p_0 hp | exact (p_sh4 hp).1) rfl (by decide) rfl (Nat.le_of_ble_eq_true rfl) (k_countTexts hp) ?_
      exact e_ri rfl rfl (by unfold countC; first | rfl | (rw [if_neg h1n0, if_neg h1n1, if_neg h1n2, if_neg h1n3, if_neg h1n4, if_neg h1n5, if_neg h1n6, if_neg h1n7])) (rfl)
    | k + 8, ht => cases ht
theorem kq_count (hp : isPs μ) (hok : shOK g σ) (what : Int32) : evI (ps_XX L xs) (d + 4) j_X7_count [.ref 0, .int what] (SM μ 4 σ) (if ¬ what < 0 ∧ what ≤ 8 then (countC μ g σ what, SM μ 4 σ) else (-1, SM μ 4 σ)) := by
  refine ⟨Nat.le_of_ble_eq_true rfl, ?_⟩
  refine e_2 rfl rfl ?_
  refine e_32 rfl (fun h1 => ?_) (fun h1 => ?_)
  · refine e_0 rfl ?_
    refine e_42 rfl ?_
    exact e_ri rfl rfl (by first | (simp only [eq_true h1, if_true, if_true, if_false, not_true_eq_false, not_false_eq_true, and_true, true_and, and_false, false_and, or_true, true_or, or_false, false_or, reduceIte]; done) | (simp only [eq_true h1, if_true, if_true, if_false, not_true_eq_false, not_false_eq_true, and_true, true_and, and_false, false_and, or_true, true_or, or_false, false_or, reduceIte]; rfl) | rfl) (by first | (simp only [eq_true h1, if_true, if_true, if_false, not_true_eq_false, not_false_eq_true, and_true, true_and, and_false, false_and, or_true, true_or, or_false, false_or, reduceIte]; done) | (simp only [eq_true h1, if_true, if_true, if_false, not_true_eq_false, not_false_eq_true, and_true, true_and, and_false, false_and, or_true, true_or, or_false, false_or, reduceIte]; rfl) | rfl)
  · refine e_2 rfl rfl ?_
    refine e_0 rfl ?_
    refine e_41 rfl (fun h2 => ?_) (fun h2 => ?_)
    · refine e_4 rfl rfl ?_
      refine e_2 rfl rfl ?_
      refine e_v1 rfl (by first | exact p_0 hp | exact (p_sh4 hp).1) rfl (by decide) rfl (Nat.le_of_ble_eq_true rfl) (k_tally hp hok what) ?_
      exact e_ri rfl rfl (by first | (simp only [eq_false h1, eq_true h2, if_true, if_true, if_false, not_true_eq_false, not_false_eq_true, and_true, true_and, and_false, false_and, or_true, true_or, or_false, false_or, reduceIte]; done) | (simp only [eq_false h1, eq_true h2, if_true, if_true, if_false, not_true_eq_false, not_false_eq_true, and_true, true_and, and_false, false_and, or_true, true_or, or_false, false_or, reduceIte]; rfl) | rfl) (by first | (simp only [eq_false h1, eq_true h2, if_true, if_true, if_false, not_true_eq_false, not_false_eq_true, and_true, true_and, and_false, false_and, or_true, true_or, or_false, false_or, reduceIte]; done) | (simp only [eq_false h1, eq_true h2, if_true, if_true, if_false, not_true_eq_false, not_false_eq_true, and_true, true_and, and_false, false_and, or_true, true_or, or_false, false_or, reduceIte]; rfl) | rfl)
    · refine e_0 rfl ?_
      refine e_42 rfl ?_
      exact e_ri rfl rfl (by first | (simp only [eq_false h1, eq_false h2, if_true, if_true, if_false, not_true_eq_false, not_false_eq_true, and_true, true_and, and_false, false_and, or_true, true_or, or_false, false_or, reduceIte]; done) | (simp only [eq_false h1, eq_false h2, if_true, if_true, if_false, not_true_eq_false, not_false_eq_true, and_true, true_and, and_false, false_and, or_true, true_or, or_false, false_or, reduceIte]; rfl) | rfl) (by first | (simp only [eq_false h1, eq_false h2, if_true, if_true, if_false, not_true_eq_false, not_false_eq_true, and_true, true_and, and_false, false_and, or_true, true_or, or_false, false_or, reduceIte]; done) | (simp only [eq_false h1, eq_false h2, if_true, if_true, if_false, not_true_eq_false, not_false_eq_true, and_true, true_and, and_false, false_and, or_true, true_or, or_false, false_or, reduceIte]; rfl) | rfl)
theorem k_ds1 (hp : isPs μ) (hok : shOK g σ) (h7 : σ 7 = 0 ∨ σ 7 = 1) (h0 h : Int64) {K : ps_F → Prop} {r' : Option Value} {μ' : ps_M} (hK : K = ps_rt j_X7_digestShip r' μ') (hk : ps_To (ps_XX L xs) (ps_Ev (ps_XX L xs) (d + 3)) j_X7_digestShip K (44, [(3, .long (dgF (fun k => ofShipF σ (nI k)) 9 h)), (0, .ref (0)), (1, .long (h0))], [], SM μ 4 σ)) : ∀ (n i : Nat), i + n = 9 → ps_To (ps_XX L xs) (ps_Ev (ps_XX L xs) (d + 3)) j_X7_digestShip K (17, [(5, .int (nI i)), (3, .long (dgF (fun k => ofShipF σ (nI k)) i h)), (0, .ref (0)), (1, .long (h0))], [], SM μ 4 σ) := by
  subst hK
  intro n
  induction n with
  | zero =>
    intro i hi
    obtain rfl : i = 9 := by omega
    skip
    refine e_2 rfl rfl ?_
    refine e_0 rfl ?_
    refine e_40 rfl (fun h1 => ?_) (fun h1 => ?_)
    · refine e_lv [1, 2, 3] rfl rfl ?_
      show ps_To _ _ _ _ (44, [(3, .long _), (0, .ref _), (1, .long _)], [], _)
      exact hk
    · exact absurd (show nI 8 < nI 9 from nI_lt (by omega) (by omega)) h1
  | succ n ih =>
    intro i hi
    refine e_2 rfl rfl ?_
    refine e_0 rfl ?_
    refine e_40 rfl (fun h1 => ?_) (fun h1 => ?_)
    · exact absurd (show nI 8 < nI i from h1) (nI_nlt (by omega) (by omega))
    · refine e_1 rfl ?_
      refine e_3 rfl rfl ?_
      refine e_21 rfl ?_
      refine e_4 rfl rfl ?_
      refine e_2 rfl rfl ?_
      refine e_v1 rfl (by first | exact p_0 hp | exact (p_sh4 hp).1) rfl (by decide) rfl (Nat.le_of_ble_eq_true rfl) (k_ofShip hp hok h7 _) ?_
      refine e_25 rfl ?_
      refine e_19 rfl ?_
      refine e_6 rfl rfl ?_
      refine e_8 rfl rfl rfl ?_
      refine e_42 rfl ?_
      refine e_lv [0, 1, 2, 3] rfl rfl ?_
      show ps_To _ _ _ _ (17, [(5, .int _), (3, .long _), (0, .ref _), (1, .long _)], [], _)
      rw [nI_1]
      exact ih (i + 1) (by omega)
theorem k_ds2in (hp : isPs μ) (hok : shOK g σ) {x : Nat} (hx : x < g) (h0 h : Int64) {K : ps_F → Prop} {r' : Option Value} {μ' : ps_M} (hK : K = ps_rt j_X7_digestShip r' μ') (hk : ps_To (ps_XX L xs) (ps_Ev (ps_XX L xs) (d + 3)) j_X7_digestShip K (90, [(3, .long (dgF (fun k => ofGangF σ (k / 5) (nI (k % 5))) (5 * (x + 1)) h)), (5, .int (nI x)), (0, .ref (0)), (1, .long (h0))], [], SM μ 4 σ)) : ∀ (n i : Nat), i + n = 5 → ps_To (ps_XX L xs) (ps_Ev (ps_XX L xs) (d + 3)) j_X7_digestShip K (62, [(6, .int (nI i)), (3, .long (dgF (fun k => ofGangF σ (k / 5) (nI (k % 5))) (5 * x + i) h)), (5, .int (nI x)), (0, .ref (0)), (1, .long (h0))], [], SM μ 4 σ) := by
  subst hK
  intro n
  induction n with
  | zero =>
    intro i hi
    obtain rfl : i = 5 := by omega
    skip
    refine e_2 rfl rfl ?_
    refine e_0 rfl ?_
    refine e_40 rfl (fun h1 => ?_) (fun h1 => ?_)
    · refine e_lv [1, 2, 3, 4] rfl rfl ?_
      show ps_To _ _ _ _ (90, [(3, .long _), (5, .int _), (0, .ref _), (1, .long _)], [], _)
      exact hk
    · exact absurd (show nI 4 < nI 5 from nI_lt (by omega) (by omega)) h1
  | succ n ih =>
    intro i hi
    refine e_2 rfl rfl ?_
    refine e_0 rfl ?_
    refine e_40 rfl (fun h1 => ?_) (fun h1 => ?_)
    · exact absurd (show nI 4 < nI i from h1) (nI_nlt (by omega) (by omega))
    · refine e_1 rfl ?_
      refine e_3 rfl rfl ?_
      refine e_21 rfl ?_
      refine e_4 rfl rfl ?_
      refine e_2 rfl rfl ?_
      refine e_2 rfl rfl ?_
      refine e_v2 rfl (by first | exact p_0 hp | exact (p_sh4 hp).1) rfl (by decide) rfl (Nat.le_of_ble_eq_true rfl) (k_ofGang hp hok hx _) ?_
      refine e_25 rfl ?_
      refine e_19 rfl ?_
      refine e_6 rfl rfl ?_
      refine e_8 rfl rfl rfl ?_
      refine e_42 rfl ?_
      refine e_lv [0, 1, 2, 3, 4] rfl rfl ?_
      show ps_To _ _ _ _ (62, [(6, .int _), (3, .long _), (5, .int _), (0, .ref _), (1, .long _)], [], _)
      rw [nI_1]
      have h2 := ih (i + 1) (by omega)
      rw [show 5 * x + (i + 1) = (5 * x + i) + 1 by omega, show dgF (fun k => ofGangF σ (k / 5) (nI (k % 5))) (5 * x + i + 1) h = 31 * dgF (fun k => ofGangF σ (k / 5) (nI (k % 5))) (5 * x + i) h + (ofGangF σ ((5 * x + i) / 5) (nI ((5 * x + i) % 5))).toInt64 from rfl, show (5 * x + i) / 5 = x by omega, show (5 * x + i) % 5 = i by omega] at h2
      exact h2
theorem k_ds2 (hp : isPs μ) (hok : shOK g σ) (h0 h : Int64) : ∀ (n i : Nat), i + n = g → ps_To (ps_XX L xs) (ps_Ev (ps_XX L xs) (d + 3)) j_X7_digestShip (ps_rt j_X7_digestShip (some (.long (dgF (fun k => ofGangF σ (k / 5) (nI (k % 5))) (5 * g) h))) (SM μ 4 σ)) (47, [(5, .int (nI i)), (3, .long (dgF (fun k => ofGangF σ (k / 5) (nI (k % 5))) (5 * i) h)), (0, .ref (0)), (1, .long (h0))], [], SM μ 4 σ) := by
  intro n
  induction n with
  | zero =>
    intro i hi
    have hg := hok.1
    have h8 := hok.2.1
    refine e_2 rfl rfl ?_
    refine e_4 rfl rfl ?_
    refine e_gr rfl (p_0 hp) rfl (p_f4 hp) ?_
    refine s_gi (p_sh4 hp) rfl rfl (by decide) (by decide) ?_
    rw [h8]
    refine e_39 rfl (fun h1 => ?_) (fun h1 => ?_)
    · refine e_3 rfl rfl ?_
      exact e_rl rfl (by rw [show i = g by omega]) (rfl)
    · exact absurd (nI_le (by omega) (by omega)) h1
  | succ n ih =>
    intro i hi
    have hg := hok.1
    have h8 := hok.2.1
    refine e_2 rfl rfl ?_
    refine e_4 rfl rfl ?_
    refine e_gr rfl (p_0 hp) rfl (p_f4 hp) ?_
    refine s_gi (p_sh4 hp) rfl rfl (by decide) (by decide) ?_
    rw [h8]
    refine e_39 rfl (fun h1 => ?_) (fun h1 => ?_)
    · exact absurd h1 (nI_ge (by omega) (by omega))
    · refine e_0 rfl ?_
      refine e_5 rfl rfl ?_
      refine e_lv [0, 2, 1, 3, 4] rfl rfl ?_
      refine k_ds2in (L := L) (xs := xs) (d := d) hp hok (x := i) (by omega) h0 h rfl ?_ 5 0 (by omega)
      refine e_8 rfl rfl rfl ?_
      refine e_42 rfl ?_
      refine e_lv [0, 1, 2, 3] rfl rfl ?_
      show ps_To _ _ _ _ (47, [(5, .int _), (3, .long _), (0, .ref _), (1, .long _)], [], _)
      rw [nI_1]
      exact ih (i + 1) (by omega)
theorem k_digestShip (hp : isPs μ) (hok : shOK g σ) (h7 : σ 7 = 0 ∨ σ 7 = 1) (h : Int64) : ps_Ev (ps_XX L xs) (d + 4) j_X7_digestShip [.ref 0, .long h] (SM μ 4 σ) (some (.long (if σ 8 = 0 then h else dgF (fun k => ofGangF σ (k / 5) (nI (k % 5))) (5 * g) (dgF (fun k => ofShipF σ (nI k)) 9 h)))) (SM μ 4 σ) := by
  refine ⟨Nat.le_of_ble_eq_true rfl, ?_⟩
  refine e_4 rfl rfl ?_
  refine e_gr rfl (p_0 hp) rfl (p_f4 hp) ?_
  refine s_gi (p_sh4 hp) rfl rfl (by decide) (by decide) ?_
  refine e_31 rfl (fun h1 => ?_) (fun h1 => ?_)
  · refine e_3 rfl rfl ?_
    refine e_6 rfl rfl ?_
    refine e_0 rfl ?_
    refine e_5 rfl rfl ?_
    refine e_lv [0, 1, 2, 3] rfl rfl ?_
    refine k_ds1 (L := L) (xs := xs) (d := d) hp hok h7 h h rfl ?_ 9 0 (by omega)
    refine e_0 rfl ?_
    refine e_5 rfl rfl ?_
    rw [if_neg h1]
    refine e_lv [0, 1, 2, 3] rfl rfl ?_
    exact k_ds2 (L := L) (xs := xs) (d := d) hp hok h _ g 0 (by omega)
  · refine e_3 rfl rfl ?_
    exact e_rl rfl (by rw [if_pos h1]) (rfl)
theorem k_dg1 (hp : isPs μ) (hok : shOK g σ) (h : Int64) {K : ps_F → Prop} {r' : Option Value} {μ' : ps_M} (hK : K = ps_rt j_X7_digest r' μ') (hk : ps_To (ps_XX L xs) (ps_Ev (ps_XX L xs) (d + 4)) j_X7_digest K (31, [(1, .long (dgF (fun k => countC μ g σ (nI k)) 9 h)), (0, .ref (0))], [], SM μ 4 σ)) : ∀ (n i : Nat), i + n = 9 → ps_To (ps_XX L xs) (ps_Ev (ps_XX L xs) (d + 4)) j_X7_digest K (6, [(3, .int (nI i)), (1, .long (dgF (fun k => countC μ g σ (nI k)) i h)), (0, .ref (0))], [], SM μ 4 σ) := by
  subst hK
  intro n
  induction n with
  | zero =>
    intro i hi
    obtain rfl : i = 9 := by omega
    skip
    refine e_2 rfl rfl ?_
    refine e_0 rfl ?_
    refine e_40 rfl (fun h1 => ?_) (fun h1 => ?_)
    · refine e_lv [1, 2] rfl rfl ?_
      show ps_To _ _ _ _ (31, [(1, .long _), (0, .ref _)], [], _)
      exact hk
    · exact absurd (show nI 8 < nI 9 from nI_lt (by omega) (by omega)) h1
  | succ n ih =>
    intro i hi
    refine e_2 rfl rfl ?_
    refine e_0 rfl ?_
    refine e_40 rfl (fun h1 => ?_) (fun h1 => ?_)
    · exact absurd (show nI 8 < nI i from h1) (nI_nlt (by omega) (by omega))
    · refine e_1 rfl ?_
      refine e_3 rfl rfl ?_
      refine e_21 rfl ?_
      refine e_4 rfl rfl ?_
      refine e_2 rfl rfl ?_
      refine e_v1 rfl (by first | exact p_0 hp | exact (p_sh4 hp).1) rfl (by decide) rfl (Nat.le_of_ble_eq_true rfl) (k_tally hp hok _) ?_
      refine e_25 rfl ?_
      refine e_19 rfl ?_
      refine e_6 rfl rfl ?_
      refine e_8 rfl rfl rfl ?_
      refine e_42 rfl ?_
      refine e_lv [0, 1, 2] rfl rfl ?_
      show ps_To _ _ _ _ (6, [(3, .int _), (1, .long _), (0, .ref _)], [], _)
      rw [nI_1]
      exact ih (i + 1) (by omega)
theorem k_dg2 (hp : isPs μ) (h : Int64) {K : ps_F → Prop} {r' : Option Value} {μ' : ps_M} (hK : K = ps_rt j_X7_digest r' μ') (hk : ps_To (ps_XX L xs) (ps_Ev (ps_XX L xs) (d + 4)) j_X7_digest K (86, [(1, .long (dgF (fun k => if ps_i μ (65 + 6 * k) 1 = 0 then -1 else ps_i μ (65 + 6 * k + 1) 5) 3 h)), (0, .ref (0))], [], SM μ 4 σ)) : ∀ (n i : Nat), i + n = 3 → ps_To (ps_XX L xs) (ps_Ev (ps_XX L xs) (d + 4)) j_X7_digest K (39, [(3, .int (nI i)), (1, .long (dgF (fun k => if ps_i μ (65 + 6 * k) 1 = 0 then -1 else ps_i μ (65 + 6 * k + 1) 5) i h)), (0, .ref (0))], [], SM μ 4 σ) := by
  subst hK
  intro n
  induction n with
  | zero =>
    intro i hi
    obtain rfl : i = 3 := by omega
    skip
    refine e_2 rfl rfl ?_
    refine e_0 rfl ?_
    refine e_39 rfl (fun h1 => ?_) (fun h1 => ?_)
    · refine e_lv [1, 2] rfl rfl ?_
      show ps_To _ _ _ _ (86, [(1, .long _), (0, .ref _)], [], _)
      exact hk
    · exact absurd (show nI 3 ≤ nI 3 from nI_le (Nat.le_refl _) (by omega)) h1
  | succ n ih =>
    intro i hi
    refine e_2 rfl rfl ?_
    refine e_0 rfl ?_
    refine e_39 rfl (fun h1 => ?_) (fun h1 => ?_)
    · exact absurd (show nI 3 ≤ nI i from h1) (nI_ge (by omega) (by omega))
    · refine e_1 rfl ?_
      refine e_3 rfl rfl ?_
      refine e_21 rfl ?_
      refine e_4 rfl rfl ?_
      refine e_gr rfl (p_0 hp) rfl (p_f3 hp) ?_
      refine e_2 rfl rfl ?_
      refine e_gaq (i := i) rfl (p_9 hp) (by decide) (by decide) (by first | rfl | (simp only [← nI_add, ← pk_mul]; rfl) | (simp only [nI_add, pk_mul, nI_1]; done)) (by omega) (by decide) (p_r9 hp (by omega)) ?_
      refine e_gi rfl (p_vo hp (k := i) (by omega)).1 rfl (by decide) ?_
      rw [SM_off (by omega)]
      refine e_30 rfl (fun h2 => ?_) (fun h2 => ?_)
      · refine e_0 rfl ?_
        refine e_25 rfl ?_
        refine e_19 rfl ?_
        refine e_6 rfl rfl ?_
        refine e_8 rfl rfl rfl ?_
        refine e_42 rfl ?_
        refine e_lv [0, 1, 2] rfl rfl ?_
        show ps_To _ _ _ _ (39, [(3, .int _), (1, .long _), (0, .ref _)], [], _)
        have e : (fun k => if ps_i μ (65 + 6 * k) 1 = 0 then -1 else ps_i μ (65 + 6 * k + 1) 5) i = (-1) := if_pos h2
        have h2 := ih (i + 1) (by omega)
        rw [show dgF (fun k => if ps_i μ (65 + 6 * k) 1 = 0 then -1 else ps_i μ (65 + 6 * k + 1) 5) (i + 1) h = 31 * dgF (fun k => if ps_i μ (65 + 6 * k) 1 = 0 then -1 else ps_i μ (65 + 6 * k + 1) 5) i h + ((fun k => if ps_i μ (65 + 6 * k) 1 = 0 then -1 else ps_i μ (65 + 6 * k + 1) 5) i).toInt64 from rfl, e] at h2
        rw [nI_1]
        exact h2
      · refine e_4 rfl rfl ?_
        refine e_gr rfl (p_0 hp) rfl (p_f3 hp) ?_
        refine e_2 rfl rfl ?_
        refine e_gaq (i := i) rfl (p_9 hp) (by decide) (by decide) (by first | rfl | (simp only [← nI_add, ← pk_mul]; rfl) | (simp only [nI_add, pk_mul, nI_1]; done)) (by omega) (by decide) (p_r9 hp (by omega)) ?_
        refine e_gr rfl (p_vo hp (k := i) (by omega)).1 rfl (p_vo hp (k := i) (by omega)).2.2.2.1 ?_
        refine e_gi rfl (p_vo hp (k := i) (by omega)).2.1.1 rfl (by decide) ?_
        rw [SM_off (by omega)]
        refine e_42 rfl ?_
        refine e_25 rfl ?_
        refine e_19 rfl ?_
        refine e_6 rfl rfl ?_
        refine e_8 rfl rfl rfl ?_
        refine e_42 rfl ?_
        refine e_lv [0, 1, 2] rfl rfl ?_
        show ps_To _ _ _ _ (39, [(3, .int _), (1, .long _), (0, .ref _)], [], _)
        have e : (fun k => if ps_i μ (65 + 6 * k) 1 = 0 then -1 else ps_i μ (65 + 6 * k + 1) 5) i = ps_i μ (65 + 6 * i + 1) 5 := if_neg h2
        have h2 := ih (i + 1) (by omega)
        rw [show dgF (fun k => if ps_i μ (65 + 6 * k) 1 = 0 then -1 else ps_i μ (65 + 6 * k + 1) 5) (i + 1) h = 31 * dgF (fun k => if ps_i μ (65 + 6 * k) 1 = 0 then -1 else ps_i μ (65 + 6 * k + 1) 5) i h + ((fun k => if ps_i μ (65 + 6 * k) 1 = 0 then -1 else ps_i μ (65 + 6 * k + 1) 5) i).toInt64 from rfl, e] at h2
        rw [nI_1]
        exact h2
theorem k_dgr (hp : isPs μ) (hz : ∀ k, k < 6 → szP (ps_i μ (45 + 2 * k) 0) 40) (h : Int64) {K : ps_F → Prop} {r' : Option Value} {μ' : ps_M} (hK : K = ps_rt j_X7_digest r' μ') (hk : ps_To (ps_XX L xs) (ps_Ev (ps_XX L xs) (d + 4)) j_X7_digest K (111, [(1, .long (rwF (fun k => ps_i μ (45 + 2 * k) 0) (fun k x => ps_i μ (45 + 2 * k + 1) x) 6 h)), (0, .ref (0))], [], SM μ 4 σ)) : ∀ (n i : Nat), i + n = 6 → ps_To (ps_XX L xs) (ps_Ev (ps_XX L xs) (d + 4)) j_X7_digest K (88, [(3, .int (nI i)), (1, .long (rwF (fun k => ps_i μ (45 + 2 * k) 0) (fun k x => ps_i μ (45 + 2 * k + 1) x) i h)), (0, .ref (0))], [], SM μ 4 σ) := by
  subst hK
  intro n
  induction n with
  | zero =>
    intro i hi
    obtain rfl : i = 6 := by omega
    skip
    refine e_2 rfl rfl ?_
    refine e_0 rfl ?_
    refine e_39 rfl (fun h1 => ?_) (fun h1 => ?_)
    · refine e_lv [1, 2] rfl rfl ?_
      show ps_To _ _ _ _ (111, [(1, .long _), (0, .ref _)], [], _)
      exact hk
    · exact absurd (show nI 6 ≤ nI 6 from nI_le (Nat.le_refl _) (by omega)) h1
  | succ n ih =>
    intro i hi
    refine e_2 rfl rfl ?_
    refine e_0 rfl ?_
    refine e_39 rfl (fun h1 => ?_) (fun h1 => ?_)
    · exact absurd (show nI 6 ≤ nI i from h1) (nI_ge (by omega) (by omega))
    · refine e_4 rfl rfl ?_
      refine e_gr rfl (p_0 hp) rfl (p_f0 hp) ?_
      refine e_2 rfl rfl ?_
      refine e_gaq (i := i) rfl (p_1 hp) (by decide) (by decide) (by first | rfl | (simp only [← nI_add, ← pk_mul]; rfl) | (simp only [nI_add, pk_mul, nI_1]; done)) (by omega) (by decide) (p_r1 hp (by omega)) ?_
      refine e_3 rfl rfl ?_
      refine e_v1 rfl (by first | exact p_0 hp | exact (p_ro hp (k := i) (by omega)).1) rfl (by decide) rfl (Nat.le_of_ble_eq_true rfl) (by have z := kr_digestOn (L := L) (xs := xs) (d := d + 1) (μ := SM μ 4 σ) (r := 45 + 2 * i) (by exact p_ro hp (by omega)) (by rw [SM_off (by omega)]; exact hz i (by omega)) (rwF (fun k => ps_i μ (45 + 2 * k) 0) (fun k x => ps_i μ (45 + 2 * k + 1) x) i h); rw [SM_off (by omega), SM_offF (by omega)] at z; exact z) ?_
      refine e_6 rfl rfl ?_
      refine e_8 rfl rfl rfl ?_
      refine e_42 rfl ?_
      refine e_lv [0, 1, 2] rfl rfl ?_
      show ps_To _ _ _ _ (88, [(3, .int _), (1, .long _), (0, .ref _)], [], _)
      rw [nI_1]
      exact ih (i + 1) (by omega)
theorem k_dgt (hp : isPs μ) (hz : ∀ k, k < 4 → szP (ps_i μ (57 + 2 * k) 0) 60) (h : Int64) {K : ps_F → Prop} {r' : Option Value} {μ' : ps_M} (hK : K = ps_rt j_X7_digest r' μ') (hk : ps_To (ps_XX L xs) (ps_Ev (ps_XX L xs) (d + 4)) j_X7_digest K (135, [(1, .long (rwF (fun k => ps_i μ (57 + 2 * k) 0) (fun k x => ps_i μ (57 + 2 * k + 1) x) 4 h)), (0, .ref (0))], [], SM μ 4 σ)) : ∀ (n i : Nat), i + n = 4 → ps_To (ps_XX L xs) (ps_Ev (ps_XX L xs) (d + 4)) j_X7_digest K (113, [(3, .int (nI i)), (1, .long (rwF (fun k => ps_i μ (57 + 2 * k) 0) (fun k x => ps_i μ (57 + 2 * k + 1) x) i h)), (0, .ref (0))], [], SM μ 4 σ) := by
  subst hK
  intro n
  induction n with
  | zero =>
    intro i hi
    obtain rfl : i = 4 := by omega
    skip
    refine e_2 rfl rfl ?_
    refine e_0 rfl ?_
    refine e_39 rfl (fun h1 => ?_) (fun h1 => ?_)
    · refine e_lv [1, 2] rfl rfl ?_
      show ps_To _ _ _ _ (135, [(1, .long _), (0, .ref _)], [], _)
      exact hk
    · exact absurd (show nI 4 ≤ nI 4 from nI_le (Nat.le_refl _) (by omega)) h1
  | succ n ih =>
    intro i hi
    refine e_2 rfl rfl ?_
    refine e_0 rfl ?_
    refine e_39 rfl (fun h1 => ?_) (fun h1 => ?_)
    · exact absurd (show nI 4 ≤ nI i from h1) (nI_ge (by omega) (by omega))
    · refine e_4 rfl rfl ?_
      refine e_gr rfl (p_0 hp) rfl (p_f1 hp) ?_
      refine e_2 rfl rfl ?_
      refine e_gaq (i := i) rfl (p_2 hp) (by decide) (by decide) (by first | rfl | (simp only [← nI_add, ← pk_mul]; rfl) | (simp only [nI_add, pk_mul, nI_1]; done)) (by omega) (by decide) (p_r2 hp (by omega)) ?_
      refine e_3 rfl rfl ?_
      refine e_v1 rfl (by first | exact p_0 hp | exact (p_tx hp (k := i) (by omega)).1) rfl (by decide) rfl (Nat.le_of_ble_eq_true rfl) (by have z := kt_digestOn (L := L) (xs := xs) (d := d + 1) (μ := SM μ 4 σ) (r := 57 + 2 * i) (by exact p_tx hp (by omega)) (by rw [SM_off (by omega)]; exact hz i (by omega)) (rwF (fun k => ps_i μ (57 + 2 * k) 0) (fun k x => ps_i μ (57 + 2 * k + 1) x) i h); rw [SM_off (by omega), SM_offF (by omega)] at z; exact z) ?_
      refine e_6 rfl rfl ?_
      refine e_8 rfl rfl rfl ?_
      refine e_42 rfl ?_
      refine e_lv [0, 1, 2] rfl rfl ?_
      show ps_To _ _ _ _ (113, [(3, .int _), (1, .long _), (0, .ref _)], [], _)
      rw [nI_1]
      exact ih (i + 1) (by omega)
def digC (μ : ps_M) (g : Nat) (σ : Nat → Int32) : Int64 := rwF (fun k => ps_i μ (57 + 2 * k) 0) (fun k x => ps_i μ (57 + 2 * k + 1) x) 4 (rwF (fun k => ps_i μ (45 + 2 * k) 0) (fun k x => ps_i μ (45 + 2 * k + 1) x) 6 (dgF (fun k => if ps_i μ (65 + 6 * k) 1 = 0 then -1 else ps_i μ (65 + 6 * k + 1) 5) 3 (if σ 8 = 0 then dgF (fun k => countC μ g σ (nI k)) 9 17 else dgF (fun k => ofGangF σ (k / 5) (nI (k % 5))) (5 * g) (dgF (fun k => ofShipF σ (nI k)) 9 (dgF (fun k => countC μ g σ (nI k)) 9 17)))))
theorem kq_digest (hp : isPs μ) (hok : shOK g σ) (h7 : σ 7 = 0 ∨ σ 7 = 1) (hzr : ∀ k, k < 6 → szP (ps_i μ (45 + 2 * k) 0) 40) (hzt : ∀ k, k < 4 → szP (ps_i μ (57 + 2 * k) 0) 60) : ps_Ev (ps_XX L xs) (d + 5) j_X7_digest [.ref 0] (SM μ 4 σ) (some (.long (digC μ g σ))) (SM μ 4 σ) := by
  refine ⟨Nat.le_of_ble_eq_true rfl, ?_⟩
  refine e_1 rfl ?_
  refine e_6 rfl rfl ?_
  refine e_0 rfl ?_
  refine e_5 rfl rfl ?_
  refine e_lv [0, 1, 2] rfl rfl ?_
  refine k_dg1 (L := L) (xs := xs) (d := d) hp hok 17 rfl ?_ 9 0 (by omega)
  refine e_4 rfl rfl ?_
  refine e_3 rfl rfl ?_
  refine e_v1 rfl (by first | exact p_0 hp | exact (p_sh4 hp).1) rfl (by decide) rfl (Nat.le_of_ble_eq_true rfl) (k_digestShip hp hok h7 _) ?_
  refine e_6 rfl rfl ?_
  refine e_0 rfl ?_
  refine e_5 rfl rfl ?_
  refine e_lv [0, 1, 2] rfl rfl ?_
  refine k_dg2 (L := L) (xs := xs) (d := d) hp _ rfl ?_ 3 0 (by omega)
  refine e_0 rfl ?_
  refine e_5 rfl rfl ?_
  refine e_lv [0, 1, 2] rfl rfl ?_
  refine k_dgr (L := L) (xs := xs) (d := d) hp hzr _ rfl ?_ 6 0 (by omega)
  refine e_0 rfl ?_
  refine e_5 rfl rfl ?_
  refine e_lv [0, 1, 2] rfl rfl ?_
  refine k_dgt (L := L) (xs := xs) (d := d) hp hzt _ rfl ?_ 4 0 (by omega)
  refine e_3 rfl rfl ?_
  exact e_rl rfl (by rfl) (rfl)
end KQ7
