-- ===== the class: faults and ships =====
def KD (ξ : ps_M) (j : Nat) : ps_M := ps_wI ξ (fun a i => if i = 1 ∧ 65 ≤ a ∧ a < 65 + 6 * j ∧ (a - 65) % 6 = 0 then 0 else ps_i ξ a i)
theorem KD_0 {ξ : ps_M} : KD ξ 0 = ξ := by
  refine ps_M_ext rfl rfl rfl ?_ rfl rfl
  funext a i
  exact if_neg (by omega)
theorem KD_s {ξ : ps_M} {j : Nat} : ps_sI (KD ξ j) (65 + 6 * j) 1 0 = KD ξ (j + 1) := by
  refine ps_M_ext rfl rfl rfl ?_ rfl rfl
  funext a i
  show ps_up (fun a i => if i = 1 ∧ 65 ≤ a ∧ a < 65 + 6 * j ∧ (a - 65) % 6 = 0 then 0 else ps_i ξ a i) (65 + 6 * j) 1 0 a i = if i = 1 ∧ 65 ≤ a ∧ a < 65 + 6 * (j + 1) ∧ (a - 65) % 6 = 0 then 0 else ps_i ξ a i
  unfold ps_up
  dsimp only
  repeat' split
  all_goals first | rfl | omega
theorem KD_off {ξ : ps_M} {j a i : Nat} (h : i ≠ 1 ∨ a < 65) : ps_i (KD ξ j) a i = ps_i ξ a i := if_neg (by omega)
section KSP
variable {L : Nat} {xs : Nat → Int32} {d : Nat} {μ ξ : ps_M} {E : Nat}
theorem kq_fault (hp : isPs μ) {r : Int32} {k : Nat} (hr : textP r → r = nI k ∧ k < 4) {E : Nat} (hE : 0 ≤ ps_i μ (57 + 2 * k) 0 → ps_i μ (57 + 2 * k) 0 = nI E ∧ E ≤ 60) : ∃ (pl : Nat) (σ' : Nat → Int32), evI (ps_XX L xs) (d + 7) j_X7_fault [.ref 0, .int r] (μ) (if ¬ textP r then (-1, μ) else if ¬ 0 ≤ ps_i μ (57 + 2 * k) 0 then (-3, FC μ 1) else (fltF (chF0 (ps_i μ (57 + 2 * k + 1)) E) E, RC (ps_sR μ 14 1 (some (57 + 2 * k))) pl σ')) := by
  by_cases hb : textP r ∧ 0 ≤ ps_i μ (57 + 2 * k) 0
  · obtain ⟨rfl, hk⟩ := hr hb.1
    obtain ⟨eE, hE60⟩ := hE hb.2
    obtain ⟨pl, σ', hf, -⟩ := kc_findFault (L := L) (xs := xs) (d := d) hp hk eE hE60
    refine ⟨pl, σ', Nat.le_of_ble_eq_true rfl, ?_⟩
    refine e_2 rfl rfl ?_
    refine e_s1 rfl rfl rfl (Nat.le_of_ble_eq_true rfl) (k_isText _) ?_
    refine e_31b rfl (fun h1 => ?_) (fun h1 => ?_)
    · refine e_4 rfl rfl ?_
      refine e_gr rfl (p_0 hp) rfl (p_f1 hp) ?_
      refine e_2 rfl rfl ?_
      refine e_gaq (i := k) rfl (p_2 hp) (by decide) (by decide) (by first | rfl | (simp only [← nI_add, ← pk_mul]; rfl) | (simp only [nI_add, pk_mul, nI_1]; done)) (by omega) (by decide) (p_r2 hp (by omega)) ?_
      refine e_v0 rfl (by first | exact p_0 hp | exact (p_tx hp (by omega)).1 | exact p_14 hp) rfl (by decide) rfl (Nat.le_of_ble_eq_true rfl) (kt_isMissing (p_tx hp hk)) ?_
      refine e_30b rfl (fun h2 => ?_) (fun h2 => ?_)
      · refine e_4 rfl rfl ?_
        refine e_gr rfl (p_0 hp) rfl (p_f6 hp) ?_
        refine e_4 rfl rfl ?_
        refine e_gr rfl (p_0 hp) rfl (p_f1 hp) ?_
        refine e_2 rfl rfl ?_
        refine e_gaq (i := k) rfl (p_2 hp) (by decide) (by decide) (by first | rfl | (simp only [← nI_add, ← pk_mul]; rfl) | (simp only [nI_add, pk_mul, nI_1]; done)) (by omega) (by decide) (p_r2 hp (by omega)) ?_
        refine e_v1 rfl (by first | exact p_0 hp | exact (p_tx hp (by omega)).1 | exact p_14 hp) rfl (by decide) rfl (Nat.le_of_ble_eq_true rfl) (evo hf) ?_
        exact e_ri rfl rfl (by first | (simp only [eq_true h1, eq_false h2, if_true, if_true, if_false, not_true_eq_false, not_false_eq_true, and_true, true_and, and_false, false_and, or_true, true_or, or_false, false_or, reduceIte]; done) | (simp only [eq_true h1, eq_false h2, if_true, if_true, if_false, not_true_eq_false, not_false_eq_true, and_true, true_and, and_false, false_and, or_true, true_or, or_false, false_or, reduceIte]; rfl) | rfl) (by first | (simp only [eq_true h1, eq_false h2, if_true, if_true, if_false, not_true_eq_false, not_false_eq_true, and_true, true_and, and_false, false_and, or_true, true_or, or_false, false_or, reduceIte]; done) | (simp only [eq_true h1, eq_false h2, if_true, if_true, if_false, not_true_eq_false, not_false_eq_true, and_true, true_and, and_false, false_and, or_true, true_or, or_false, false_or, reduceIte]; rfl) | rfl)
      · refine e_4 rfl rfl ?_
        refine e_0 rfl ?_
        refine e_v1 rfl (by first | exact p_0 hp | exact (p_tx hp (by omega)).1 | exact p_14 hp) rfl (by decide) rfl (Nat.le_of_ble_eq_true rfl) (evo (k_find (f := 1) (μ := μ) hp (by decide) (by decide))) ?_
        exact e_ri rfl rfl (by first | (simp only [eq_true h1, eq_true h2, if_true, if_true, if_false, not_true_eq_false, not_false_eq_true, and_true, true_and, and_false, false_and, or_true, true_or, or_false, false_or, reduceIte]; done) | (simp only [eq_true h1, eq_true h2, if_true, if_true, if_false, not_true_eq_false, not_false_eq_true, and_true, true_and, and_false, false_and, or_true, true_or, or_false, false_or, reduceIte]; rfl) | rfl) (by first | (simp only [eq_true h1, eq_true h2, if_true, if_true, if_false, not_true_eq_false, not_false_eq_true, and_true, true_and, and_false, false_and, or_true, true_or, or_false, false_or, reduceIte]; done) | (simp only [eq_true h1, eq_true h2, if_true, if_true, if_false, not_true_eq_false, not_false_eq_true, and_true, true_and, and_false, false_and, or_true, true_or, or_false, false_or, reduceIte]; rfl) | rfl)
    · refine e_0 rfl ?_
      exact e_ri rfl rfl (by first | (simp only [eq_false h1, if_true, if_true, if_false, not_true_eq_false, not_false_eq_true, and_true, true_and, and_false, false_and, or_true, true_or, or_false, false_or, reduceIte]; done) | (simp only [eq_false h1, if_true, if_true, if_false, not_true_eq_false, not_false_eq_true, and_true, true_and, and_false, false_and, or_true, true_or, or_false, false_or, reduceIte]; rfl) | rfl) (by first | (simp only [eq_false h1, if_true, if_true, if_false, not_true_eq_false, not_false_eq_true, and_true, true_and, and_false, false_and, or_true, true_or, or_false, false_or, reduceIte]; done) | (simp only [eq_false h1, if_true, if_true, if_false, not_true_eq_false, not_false_eq_true, and_true, true_and, and_false, false_and, or_true, true_or, or_false, false_or, reduceIte]; rfl) | rfl)
  · refine ⟨0, z0F, Nat.le_of_ble_eq_true rfl, ?_⟩
    refine e_2 rfl rfl ?_
    refine e_s1 rfl rfl rfl (Nat.le_of_ble_eq_true rfl) (k_isText _) ?_
    refine e_31b rfl (fun h1 => ?_) (fun h1 => ?_)
    · obtain ⟨rfl, hk⟩ := hr h1
      refine e_4 rfl rfl ?_
      refine e_gr rfl (p_0 hp) rfl (p_f1 hp) ?_
      refine e_2 rfl rfl ?_
      refine e_gaq (i := k) rfl (p_2 hp) (by decide) (by decide) (by first | rfl | (simp only [← nI_add, ← pk_mul]; rfl) | (simp only [nI_add, pk_mul, nI_1]; done)) (by omega) (by decide) (p_r2 hp (by omega)) ?_
      refine e_v0 rfl (by first | exact p_0 hp | exact (p_tx hp (by omega)).1 | exact p_14 hp) rfl (by decide) rfl (Nat.le_of_ble_eq_true rfl) (kt_isMissing (p_tx hp hk)) ?_
      refine e_30b rfl (fun h2 => ?_) (fun h2 => ?_)
      · exact absurd ⟨h1, Classical.not_not.mp h2⟩ hb
      · refine e_4 rfl rfl ?_
        refine e_0 rfl ?_
        refine e_v1 rfl (by first | exact p_0 hp | exact (p_tx hp (by omega)).1 | exact p_14 hp) rfl (by decide) rfl (Nat.le_of_ble_eq_true rfl) (evo (k_find (f := 1) (μ := μ) hp (by decide) (by decide))) ?_
        exact e_ri rfl rfl (by first | (simp only [eq_true h1, eq_true h2, if_true, if_true, if_false, not_true_eq_false, not_false_eq_true, and_true, true_and, and_false, false_and, or_true, true_or, or_false, false_or, reduceIte]; done) | (simp only [eq_true h1, eq_true h2, if_true, if_true, if_false, not_true_eq_false, not_false_eq_true, and_true, true_and, and_false, false_and, or_true, true_or, or_false, false_or, reduceIte]; rfl) | rfl) (by first | (simp only [eq_true h1, eq_true h2, if_true, if_true, if_false, not_true_eq_false, not_false_eq_true, and_true, true_and, and_false, false_and, or_true, true_or, or_false, false_or, reduceIte]; done) | (simp only [eq_true h1, eq_true h2, if_true, if_true, if_false, not_true_eq_false, not_false_eq_true, and_true, true_and, and_false, false_and, or_true, true_or, or_false, false_or, reduceIte]; rfl) | rfl)
    · refine e_0 rfl ?_
      exact e_ri rfl rfl (by first | (simp only [eq_false h1, if_true, if_true, if_false, not_true_eq_false, not_false_eq_true, and_true, true_and, and_false, false_and, or_true, true_or, or_false, false_or, reduceIte]; done) | (simp only [eq_false h1, if_true, if_true, if_false, not_true_eq_false, not_false_eq_true, and_true, true_and, and_false, false_and, or_true, true_or, or_false, false_or, reduceIte]; rfl) | rfl) (by first | (simp only [eq_false h1, if_true, if_true, if_false, not_true_eq_false, not_false_eq_true, and_true, true_and, and_false, false_and, or_true, true_or, or_false, false_or, reduceIte]; done) | (simp only [eq_false h1, if_true, if_true, if_false, not_true_eq_false, not_false_eq_true, and_true, true_and, and_false, false_and, or_true, true_or, or_false, false_or, reduceIte]; rfl) | rfl)
theorem ks_loop (hp : isPs ξ) {y : Int32} {K : ps_F → Prop} {r' : Option Value} {μ' : ps_M} (hK : K = ps_rt j_X7_ship r' μ') (hk : ps_To (ps_XX L xs) (ps_Ev (ps_XX L xs) (d + 0)) j_X7_ship K (85, [(0, .ref (0)), (1, .int (y))], [], KD ξ 3)) : ∀ (n i : Nat), i + n = 3 → ps_To (ps_XX L xs) (ps_Ev (ps_XX L xs) (d + 0)) j_X7_ship K (64, [(2, .int (nI i)), (0, .ref (0)), (1, .int (y))], [], KD ξ i) := by
  subst hK
  intro n
  induction n with
  | zero =>
    intro i hi
    obtain rfl : i = 3 := by omega
    skip
    refine e_2 rfl rfl ?_
    refine e_0 rfl ?_
    refine e_39 rfl (fun h1 => ?_) (fun h1 => ?_)
    · refine e_lv [1, 2] rfl rfl ?_
      show ps_To _ _ _ _ (85, [(0, .ref _), (1, .int _)], [], _)
      exact hk
    · exact absurd (show nI 3 ≤ nI 3 from nI_le (Nat.le_refl _) (by omega)) h1
  | succ n ih =>
    intro i hi
    refine e_2 rfl rfl ?_
    refine e_0 rfl ?_
    refine e_39 rfl (fun h1 => ?_) (fun h1 => ?_)
    · exact absurd (show nI 3 ≤ nI i from h1) (nI_ge (by omega) (by omega))
    · refine e_4 rfl rfl ?_
      refine e_gr rfl (p_0 hp) rfl (p_f3 hp) ?_
      refine e_2 rfl rfl ?_
      refine e_gaq (i := i) rfl (p_9 hp) (by decide) (by decide) (by first | rfl | (simp only [← nI_add, ← pk_mul]; rfl) | (simp only [nI_add, pk_mul, nI_1]; done)) (by omega) (by decide) (p_r9 hp (by omega)) ?_
      refine e_0 rfl ?_
      refine e_pi rfl (p_vo hp (k := i) (by omega)).1 rfl (Or.inr ⟨rfl, by decide⟩) ?_
      refine e_8 rfl rfl rfl ?_
      refine e_42 rfl ?_
      refine e_lv [0, 1, 2] rfl rfl ?_
      show ps_To _ _ _ _ (64, [(2, .int _), (0, .ref _), (1, .int _)], [], _)
      rw [KD_s, nI_1]
      exact ih (i + 1) (by omega)
theorem ks_tail {ζ : ps_M} (hp : isPs ζ) {σ' : Nat → Int32} (e15 : shG (ps_i ζ) 15 = σ') (h7 : σ' 7 = 0 ∨ σ' 7 = 1) {y : Int32} : ps_To (ps_XX L xs) (ps_Ev (ps_XX L xs) (d + 1)) j_X7_ship (ps_rt j_X7_ship (some (.int (σ' 8))) (KD (SM ζ 4 σ') 3)) (48, [(0, .ref 0), (1, .int y)], [], ζ) := by
  have fl := ss_follow (L := L) (xs := xs) (d := d) (μ := ζ) (q := 4) (c := 15) (σ := shG (ps_i ζ) 4) (p_sh4 hp) (p_sh15 hp) (by omega) (by
    have e7 : ps_i ζ 15 7 = σ' 7 := by rw [← e15]; rfl
    rw [e7]; exact h7)
  rw [SM_self, e15] at fl
  refine e_4 rfl rfl ?_
  refine e_gr rfl (p_0 hp) rfl (p_f4 hp) ?_
  refine e_4 rfl rfl ?_
  refine e_gr rfl (p_0 hp) rfl (p_f6 hp) ?_
  refine e_gr rfl (p_14 hp) rfl (p_r14 hp) ?_
  refine e_v1v rfl (by first | exact (p_sh4 hp).1 | exact p_0 hp) rfl (by decide) rfl (Nat.le_of_ble_eq_true rfl) (fl) ?_
  refine e_0 rfl ?_
  refine e_5 rfl rfl ?_
  rw [← KD_0 (ξ := SM ζ 4 σ')]
  refine ks_loop (L := L) (xs := xs) (d := d + 1) (ξ := SM ζ 4 σ') (isPs.SM hp) rfl ?_ 3 0 (by omega)
  refine e_4 rfl rfl ?_
  refine e_gr rfl (p_0 hp) rfl (p_f4 hp) ?_
  refine e_gi rfl (p_sh4 hp).1 rfl (by decide) ?_
  exact e_ri rfl rfl (by rw [KD_off (by omega), SM_g (by omega)]) (by rw [KD_0])
theorem kq_ship (hp : isPs μ) {r : Int32} {k : Nat} (hr : textP r → r = nI k ∧ k < 4) {E : Nat} (hE : 0 ≤ ps_i μ (57 + 2 * k) 0 → ps_i μ (57 + 2 * k) 0 = nI E ∧ E ≤ 60) : ∃ (pl : Nat) (σ' σ'' : Nat → Int32), evI (ps_XX L xs) (d + 8) j_X7_ship [.ref 0, .int r] (μ) (if ¬ textP r then (-1, μ) else if ¬ 0 ≤ ps_i μ (57 + 2 * k) 0 then (-3, FC μ 1) else if ¬ fltF (chF0 (ps_i μ (57 + 2 * k + 1)) E) E = -9 then (-4, RC (ps_sR μ 14 1 (some (57 + 2 * k))) pl σ') else (nI (gaR (chF0 (ps_i μ (57 + 2 * k + 1)) E) E).2.2.1, KD (SM (RC (ps_sR μ 14 1 (some (57 + 2 * k))) pl σ') 4 σ'') 3)) ∧ (textP r → 0 ≤ ps_i μ (57 + 2 * k) 0 → fltF (chF0 (ps_i μ (57 + 2 * k + 1)) E) E = -9 → ∃ σ1, ∀ i, i < 27 → σ'' i = (enS (upd (upd (upd (upd (upd (upd (upd (upd (upd σ1 0 (10 * (nI (dvF (chF0 (ps_i μ (57 + 2 * k + 1)) E) (skF (chF0 (ps_i μ (57 + 2 * k + 1)) E) 60 0 + 1))) + (nI (dvF (chF0 (ps_i μ (57 + 2 * k + 1)) E) (skF (chF0 (ps_i μ (57 + 2 * k + 1)) E) 60 0 + 2))))) 1 (nI (dvF (chF0 (ps_i μ (57 + 2 * k + 1)) E) (skF (chF0 (ps_i μ (57 + 2 * k + 1)) E) 60 0 + 3)))) 2 (nI (dvF (chF0 (ps_i μ (57 + 2 * k + 1)) E) (skF (chF0 (ps_i μ (57 + 2 * k + 1)) E) 60 0 + 4)))) 3 0) 4 (10 * (nI (dvF (chF0 (ps_i μ (57 + 2 * k + 1)) E) (skF (chF0 (ps_i μ (57 + 2 * k + 1)) E) 60 0 + 5))) + (nI (dvF (chF0 (ps_i μ (57 + 2 * k + 1)) E) (skF (chF0 (ps_i μ (57 + 2 * k + 1)) E) 60 0 + 6))))) 5 0) 6 0) 7 0) 8 0) (gaR (chF0 (ps_i μ (57 + 2 * k + 1)) E) E).2.2.2.1 (gaR (chF0 (ps_i μ (57 + 2 * k + 1)) E) E).2.2.2.2 (gaR (chF0 (ps_i μ (57 + 2 * k + 1)) E) E).2.2.1) i) := by
  by_cases hb : textP r ∧ 0 ≤ ps_i μ (57 + 2 * k) 0
  · obtain ⟨rfl, hk⟩ := hr hb.1
    obtain ⟨eE, hE60⟩ := hE hb.2
    obtain ⟨pl, σ', hf, hv⟩ := kc_findFault (L := L) (xs := xs) (d := d + 1) hp hk eE hE60
    refine ⟨pl, σ', shG (ps_i (RC (ps_sR μ 14 1 (some (57 + 2 * k))) pl σ')) 15, ⟨Nat.le_of_ble_eq_true rfl, ?_⟩, fun _ _ h9 => ?_⟩
    · refine e_2 rfl rfl ?_
      refine e_s1 rfl rfl rfl (Nat.le_of_ble_eq_true rfl) (k_isText _) ?_
      refine e_31b rfl (fun h1 => ?_) (fun h1 => ?_)
      · refine e_4 rfl rfl ?_
        refine e_gr rfl (p_0 hp) rfl (p_f1 hp) ?_
        refine e_2 rfl rfl ?_
        refine e_gaq (i := k) rfl (p_2 hp) (by decide) (by decide) (by first | rfl | (simp only [← nI_add, ← pk_mul]; rfl) | (simp only [nI_add, pk_mul, nI_1]; done)) (by omega) (by decide) (p_r2 hp (by omega)) ?_
        refine e_v0 rfl (by first | exact p_0 hp | exact (p_tx hp (by omega)).1 | exact p_14 hp) rfl (by decide) rfl (Nat.le_of_ble_eq_true rfl) (kt_isMissing (p_tx hp hk)) ?_
        refine e_30b rfl (fun h2 => ?_) (fun h2 => ?_)
        · refine e_4 rfl rfl ?_
          refine e_gr rfl (p_0 hp) rfl (p_f6 hp) ?_
          refine e_4 rfl rfl ?_
          refine e_gr rfl (p_0 hp) rfl (p_f1 hp) ?_
          refine e_2 rfl rfl ?_
          refine e_gaq (i := k) rfl (p_2 hp) (by decide) (by decide) (by first | rfl | (simp only [← nI_add, ← pk_mul]; rfl) | (simp only [nI_add, pk_mul, nI_1]; done)) (by omega) (by decide) (p_r2 hp (by omega)) ?_
          refine e_v1 rfl (by first | exact p_0 hp | exact (p_tx hp (by omega)).1 | exact p_14 hp) rfl (by decide) rfl (Nat.le_of_ble_eq_true rfl) (evo hf) ?_
          refine e_0 rfl ?_
          refine e_36 rfl (fun h3 => ?_) (fun h3 => ?_)
          · simp only [eq_true h1, eq_false h2, eq_true h3, if_true, if_true, if_false, not_true_eq_false, not_false_eq_true, and_true, true_and, and_false, false_and, or_true, true_or, or_false, false_or, reduceIte]
            obtain ⟨σ1, hσ⟩ := hv h3
            have e27 : ∀ i, i < 27 → shG (ps_i (RC (ps_sR μ 14 1 (some (57 + 2 * k))) pl σ')) 15 i = σ' i := fun i hi => shG_SM hi
            have h := ks_tail (L := L) (xs := xs) (d := d + 6) (ζ := RC (ps_sR μ 14 1 (some (57 + 2 * k))) pl σ') (y := nI k) (isPs.SM (isPs.sI hp.sR)) rfl (Or.inl (by rw [e27 7 (by omega), hσ]; rfl))
            rw [e27 8 (by omega), show σ' 8 = nI (gaR (chF0 (ps_i μ (57 + 2 * k + 1)) E) E).2.2.1 by rw [hσ]; rfl] at h
            exact h
          · refine e_0 rfl ?_
            exact e_ri rfl rfl (by first | (simp only [eq_true h1, eq_false h2, eq_false h3, if_true, if_true, if_false, not_true_eq_false, not_false_eq_true, and_true, true_and, and_false, false_and, or_true, true_or, or_false, false_or, reduceIte]; done) | (simp only [eq_true h1, eq_false h2, eq_false h3, if_true, if_true, if_false, not_true_eq_false, not_false_eq_true, and_true, true_and, and_false, false_and, or_true, true_or, or_false, false_or, reduceIte]; rfl) | rfl) (by first | (simp only [eq_true h1, eq_false h2, eq_false h3, if_true, if_true, if_false, not_true_eq_false, not_false_eq_true, and_true, true_and, and_false, false_and, or_true, true_or, or_false, false_or, reduceIte]; done) | (simp only [eq_true h1, eq_false h2, eq_false h3, if_true, if_true, if_false, not_true_eq_false, not_false_eq_true, and_true, true_and, and_false, false_and, or_true, true_or, or_false, false_or, reduceIte]; rfl) | rfl)
        · refine e_4 rfl rfl ?_
          refine e_0 rfl ?_
          refine e_v1 rfl (by first | exact p_0 hp | exact (p_tx hp (by omega)).1 | exact p_14 hp) rfl (by decide) rfl (Nat.le_of_ble_eq_true rfl) (evo (k_find (f := 1) (μ := μ) hp (by decide) (by decide))) ?_
          exact e_ri rfl rfl (by first | (simp only [eq_true h1, eq_true h2, if_true, if_true, if_false, not_true_eq_false, not_false_eq_true, and_true, true_and, and_false, false_and, or_true, true_or, or_false, false_or, reduceIte]; done) | (simp only [eq_true h1, eq_true h2, if_true, if_true, if_false, not_true_eq_false, not_false_eq_true, and_true, true_and, and_false, false_and, or_true, true_or, or_false, false_or, reduceIte]; rfl) | rfl) (by first | (simp only [eq_true h1, eq_true h2, if_true, if_true, if_false, not_true_eq_false, not_false_eq_true, and_true, true_and, and_false, false_and, or_true, true_or, or_false, false_or, reduceIte]; done) | (simp only [eq_true h1, eq_true h2, if_true, if_true, if_false, not_true_eq_false, not_false_eq_true, and_true, true_and, and_false, false_and, or_true, true_or, or_false, false_or, reduceIte]; rfl) | rfl)
      · refine e_0 rfl ?_
        exact e_ri rfl rfl (by first | (simp only [eq_false h1, if_true, if_true, if_false, not_true_eq_false, not_false_eq_true, and_true, true_and, and_false, false_and, or_true, true_or, or_false, false_or, reduceIte]; done) | (simp only [eq_false h1, if_true, if_true, if_false, not_true_eq_false, not_false_eq_true, and_true, true_and, and_false, false_and, or_true, true_or, or_false, false_or, reduceIte]; rfl) | rfl) (by first | (simp only [eq_false h1, if_true, if_true, if_false, not_true_eq_false, not_false_eq_true, and_true, true_and, and_false, false_and, or_true, true_or, or_false, false_or, reduceIte]; done) | (simp only [eq_false h1, if_true, if_true, if_false, not_true_eq_false, not_false_eq_true, and_true, true_and, and_false, false_and, or_true, true_or, or_false, false_or, reduceIte]; rfl) | rfl)
    · obtain ⟨σ1, hσ⟩ := hv h9
      exact ⟨σ1, fun i hi => by rw [← hσ]; exact shG_SM hi⟩
  · refine ⟨0, z0F, z0F, ⟨Nat.le_of_ble_eq_true rfl, ?_⟩, fun h1 h2 => absurd ⟨h1, h2⟩ hb⟩
    refine e_2 rfl rfl ?_
    refine e_s1 rfl rfl rfl (Nat.le_of_ble_eq_true rfl) (k_isText _) ?_
    refine e_31b rfl (fun h1 => ?_) (fun h1 => ?_)
    · obtain ⟨rfl, hk⟩ := hr h1
      refine e_4 rfl rfl ?_
      refine e_gr rfl (p_0 hp) rfl (p_f1 hp) ?_
      refine e_2 rfl rfl ?_
      refine e_gaq (i := k) rfl (p_2 hp) (by decide) (by decide) (by first | rfl | (simp only [← nI_add, ← pk_mul]; rfl) | (simp only [nI_add, pk_mul, nI_1]; done)) (by omega) (by decide) (p_r2 hp (by omega)) ?_
      refine e_v0 rfl (by first | exact p_0 hp | exact (p_tx hp (by omega)).1 | exact p_14 hp) rfl (by decide) rfl (Nat.le_of_ble_eq_true rfl) (kt_isMissing (p_tx hp hk)) ?_
      refine e_30b rfl (fun h2 => ?_) (fun h2 => ?_)
      · exact absurd ⟨h1, Classical.not_not.mp h2⟩ hb
      · refine e_4 rfl rfl ?_
        refine e_0 rfl ?_
        refine e_v1 rfl (by first | exact p_0 hp | exact (p_tx hp (by omega)).1 | exact p_14 hp) rfl (by decide) rfl (Nat.le_of_ble_eq_true rfl) (evo (k_find (f := 1) (μ := μ) hp (by decide) (by decide))) ?_
        exact e_ri rfl rfl (by first | (simp only [eq_true h1, eq_true h2, if_true, if_true, if_false, not_true_eq_false, not_false_eq_true, and_true, true_and, and_false, false_and, or_true, true_or, or_false, false_or, reduceIte]; done) | (simp only [eq_true h1, eq_true h2, if_true, if_true, if_false, not_true_eq_false, not_false_eq_true, and_true, true_and, and_false, false_and, or_true, true_or, or_false, false_or, reduceIte]; rfl) | rfl) (by first | (simp only [eq_true h1, eq_true h2, if_true, if_true, if_false, not_true_eq_false, not_false_eq_true, and_true, true_and, and_false, false_and, or_true, true_or, or_false, false_or, reduceIte]; done) | (simp only [eq_true h1, eq_true h2, if_true, if_true, if_false, not_true_eq_false, not_false_eq_true, and_true, true_and, and_false, false_and, or_true, true_or, or_false, false_or, reduceIte]; rfl) | rfl)
    · refine e_0 rfl ?_
      exact e_ri rfl rfl (by first | (simp only [eq_false h1, if_true, if_true, if_false, not_true_eq_false, not_false_eq_true, and_true, true_and, and_false, false_and, or_true, true_or, or_false, false_or, reduceIte]; done) | (simp only [eq_false h1, if_true, if_true, if_false, not_true_eq_false, not_false_eq_true, and_true, true_and, and_false, false_and, or_true, true_or, or_false, false_or, reduceIte]; rfl) | rfl) (by first | (simp only [eq_false h1, if_true, if_true, if_false, not_true_eq_false, not_false_eq_true, and_true, true_and, and_false, false_and, or_true, true_or, or_false, false_or, reduceIte]; done) | (simp only [eq_false h1, if_true, if_true, if_false, not_true_eq_false, not_false_eq_true, and_true, true_and, and_false, false_and, or_true, true_or, or_false, false_or, reduceIte]; rfl) | rfl)
end KSP
