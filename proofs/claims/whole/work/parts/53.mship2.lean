-- ===== faults and ships of the model =====
def NZ (ν : ps_M) (m z : Nat) : ps_M := ps_wI ν (fun a i => if a = m + 1 ∧ i < z then 0 else ps_i ν a i)
def NG (ν : ps_M) (m : Nat) (ks fs : Nat → Int32) (j : Nat) : ps_M := ps_wI ν (fun a i => if a = m + 2 ∧ i < j then ks i else if a = m + 1 ∧ 6 ≤ i ∧ i < 6 + j then fs (i - 6) else if a = m + 1 ∧ 12 ≤ i ∧ i < 12 + j then fs (i - 12) else ps_i ν a i)
def NK (ν : ps_M) (m e : Nat) : ps_M := ps_wI ν (fun a i => if a = m + 1 ∧ i % 458 = 0 ∧ 458 ≤ i ∧ i < 458 * (e + 1) then -1 else ps_i ν a i)
def NSh (ν : ps_M) (m G : Nat) (lk ld wt cg : Int32) (ks fs : Nat → Int32) : ps_M := NK (NG (ps_sI (ps_sI (NZ (ps_sI (ps_sI (ps_sI ν m 1 (nI G)) m 3 lk) m 4 ld) m 458) (m + 1) 1 wt) (m + 1) 2 cg) m ks fs G) m 3
theorem NZ_0 {ν : ps_M} {m : Nat} : NZ ν m 0 = ν := by
  refine ps_M_ext rfl rfl rfl ?_ rfl rfl
  funext a i
  exact if_neg (by omega)
theorem NZ_s {ν : ps_M} {m z : Nat} : ps_sI (NZ ν m z) (m + 1) z 0 = NZ ν m (z + 1) := by
  refine ps_M_ext rfl rfl rfl ?_ rfl rfl
  funext a i
  show ps_up (fun a i => if a = m + 1 ∧ i < z then 0 else ps_i ν a i) (m + 1) z 0 a i = if a = m + 1 ∧ i < z + 1 then 0 else ps_i ν a i
  unfold ps_up
  grind
theorem NG_0 {ν : ps_M} {m : Nat} {ks fs : Nat → Int32} : NG ν m ks fs 0 = ν := by
  refine ps_M_ext rfl rfl rfl ?_ rfl rfl
  funext a i
  exact (if_neg (by omega)).trans ((if_neg (by omega)).trans (if_neg (by omega)))
theorem NG_s {ν : ps_M} {m j : Nat} {ks fs : Nat → Int32} (hj : j < 6) : ps_sI (ps_sI (ps_sI (NG ν m ks fs j) (m + 2) j (ks j)) (m + 1) (6 + j) (fs j)) (m + 1) (12 + j) (fs j) = NG ν m ks fs (j + 1) := by
  refine ps_M_ext rfl rfl rfl ?_ rfl rfl
  funext a i
  show ps_up (ps_up (ps_up (fun a i => if a = m + 2 ∧ i < j then ks i else if a = m + 1 ∧ 6 ≤ i ∧ i < 6 + j then fs (i - 6) else if a = m + 1 ∧ 12 ≤ i ∧ i < 12 + j then fs (i - 12) else ps_i ν a i) (m + 2) j (ks j)) (m + 1) (6 + j) (fs j)) (m + 1) (12 + j) (fs j) a i = if a = m + 2 ∧ i < j + 1 then ks i else if a = m + 1 ∧ 6 ≤ i ∧ i < 6 + (j + 1) then fs (i - 6) else if a = m + 1 ∧ 12 ≤ i ∧ i < 12 + (j + 1) then fs (i - 12) else ps_i ν a i
  unfold ps_up
  dsimp only
  repeat' split
  all_goals first | rfl | omega | (congr 1; omega)
theorem NK_0 {ν : ps_M} {m : Nat} : NK ν m 0 = ν := by
  refine ps_M_ext rfl rfl rfl ?_ rfl rfl
  funext a i
  exact if_neg (by omega)
theorem NK_s {ν : ps_M} {m e : Nat} : ps_sI (NK ν m e) (m + 1) (458 * (e + 1)) (-1) = NK ν m (e + 1) := by
  refine ps_M_ext rfl rfl rfl ?_ rfl rfl
  funext a i
  show ps_up (fun a i => if a = m + 1 ∧ i % 458 = 0 ∧ 458 ≤ i ∧ i < 458 * (e + 1) then -1 else ps_i ν a i) (m + 1) (458 * (e + 1)) (-1) a i = if a = m + 1 ∧ i % 458 = 0 ∧ 458 ≤ i ∧ i < 458 * (e + 1 + 1) then -1 else ps_i ν a i
  unfold ps_up
  dsimp only
  repeat' split
  all_goals first | rfl | omega
theorem NZ_off {ν : ps_M} {m z a i : Nat} (h : a ≠ m + 1) : ps_i (NZ ν m z) a i = ps_i ν a i := if_neg (by omega)
theorem NG_off {ν : ps_M} {m j a i : Nat} {ks fs : Nat → Int32} (h : a ≠ m + 1 ∧ a ≠ m + 2) : ps_i (NG ν m ks fs j) a i = ps_i ν a i := (if_neg (by omega)).trans ((if_neg (by omega)).trans (if_neg (by omega)))
theorem NK_off {ν : ps_M} {m e a i : Nat} (h : a ≠ m + 1) : ps_i (NK ν m e) a i = ps_i ν a i := if_neg (by omega)
theorem gaG_le {c : Nat → Int32} {E : Nat} : ∀ f p G ks fs, G ≤ 6 → (gaF c E f p G ks fs).2.2.1 ≤ 6
  | 0, _, _, _, _, h2 => h2
  | f + 1, p, G, ks, fs, h2 => by
    unfold gaF
    split
    · exact h2
    · split
      · exact h2
      · rename_i z1 z2
        split
        · exact h2
        · exact gaG_le f _ _ _ _ (by have : ¬ G = 6 := fun q => z2 (Or.inr q); omega)
theorem gaG_6 {b : Nat → Int32} {E : Nat} : (gaR (chF0 b E) E).2.2.1 ≤ 6 := gaG_le _ _ _ _ _ (Nat.zero_le _)
theorem isMd_sI {μ : ps_M} {m k i : Nat} {x : Int32} (h : isMd μ m) : isMd (ps_sI μ k i x) m := h
theorem isMd_NZ {μ : ps_M} {m z : Nat} (h : isMd μ m) : isMd (NZ μ m z) m := h
theorem isMd_NG {μ : ps_M} {m z : Nat} {ks fs : Nat → Int32} (h : isMd μ m) : isMd (NG μ m ks fs z) m := h
theorem isMd_NK {μ : ps_M} {m z : Nat} (h : isMd μ m) : isMd (NK μ m z) m := h
theorem isMd_RD {μ : ps_M} {m F p E : Nat} {ρ γ : Nat → Int32} (h : isMd μ m) : isMd (RD μ m F p E ρ γ) m := h
section MRS
variable {L : Nat} {xs : Nat → Int32} {d : Nat} {μ ν : ps_M} {m E : Nat} {ρ γ : Nat → Int32}
theorem mq_fault (hm : isMd μ m) {r : Int32} {k : Nat} (hr : textP r → r = nI k ∧ k < 4) {E : Nat} (hE : 0 ≤ ps_i μ (m + 5) k → ps_i μ (m + 5) k = nI E ∧ E ≤ 60) : ∃ (pl : Nat) (ρ' γ' : Nat → Int32), evI (ps_XX L xs) (d + 5) j_X8_fault [.ref m, .int r] (μ) (if ¬ textP r then (-1, μ) else if ¬ 0 ≤ ps_i μ (m + 5) k then (-3, FM μ m 1) else (fltF (chF0 (fun x => ps_i μ (m + 6) (60 * k + x)) E) E, RD μ m (60 * k) pl E ρ' γ')) := by
  by_cases hb : textP r ∧ 0 ≤ ps_i μ (m + 5) k
  · obtain ⟨rfl, hk⟩ := hr hb.1
    obtain ⟨eE, hE60⟩ := hE hb.2
    obtain ⟨pl, ρ', γ', hf, -⟩ := mr_faultOf (L := L) (xs := xs) (d := d) hm hk eE hE60
    refine ⟨pl, ρ', γ', Nat.le_of_ble_eq_true rfl, ?_⟩
    refine e_2 rfl rfl ?_
    refine e_s1 rfl rfl rfl (Nat.le_of_ble_eq_true rfl) (sm_isText _) ?_
    refine e_31b rfl (fun h1 => ?_) (fun h1 => ?_)
    · refine e_4 rfl rfl ?_
      refine e_gr rfl hm.1 rfl hm.2.2.2.2.2.2.2.2.2.2.2.2.2.1 ?_
      refine e_2 rfl rfl ?_
      refine e_48q (i := k) rfl hm.2.2.2.2.2.1 (by first | rfl | (simp only [← nI_add, ← pk_mul]; rfl) | (simp only [nI_add, pk_mul, nI_1]; done)) (by omega) (by decide) ?_
      refine e_33 rfl (fun h2 => ?_) (fun h2 => ?_)
      · refine e_4 rfl rfl ?_
        refine e_2 rfl rfl ?_
        refine e_v1 rfl (by first | exact hm.1 | assumption | rfl) rfl (by decide) rfl (Nat.le_of_ble_eq_true rfl) (evo hf) ?_
        exact e_ri rfl rfl (by first | (simp only [eq_true h1, eq_true h2, if_true, if_true, if_false, not_true_eq_false, not_false_eq_true, and_true, true_and, and_false, false_and, or_true, true_or, or_false, false_or, reduceIte]; done) | (simp only [eq_true h1, eq_true h2, if_true, if_true, if_false, not_true_eq_false, not_false_eq_true, and_true, true_and, and_false, false_and, or_true, true_or, or_false, false_or, reduceIte]; rfl) | rfl) (by first | (simp only [eq_true h1, eq_true h2, if_true, if_true, if_false, not_true_eq_false, not_false_eq_true, and_true, true_and, and_false, false_and, or_true, true_or, or_false, false_or, reduceIte]; done) | (simp only [eq_true h1, eq_true h2, if_true, if_true, if_false, not_true_eq_false, not_false_eq_true, and_true, true_and, and_false, false_and, or_true, true_or, or_false, false_or, reduceIte]; rfl) | rfl)
      · refine e_4 rfl rfl ?_
        refine e_0 rfl ?_
        refine e_v1 rfl (by first | exact hm.1 | assumption | rfl) rfl (by decide) rfl (Nat.le_of_ble_eq_true rfl) (evo (mq_find (by exact hm) (by decide))) ?_
        refine e_42 rfl ?_
        exact e_ri rfl rfl (by first | (simp only [eq_true h1, eq_false h2, if_true, if_true, if_false, not_true_eq_false, not_false_eq_true, and_true, true_and, and_false, false_and, or_true, true_or, or_false, false_or, reduceIte]; done) | (simp only [eq_true h1, eq_false h2, if_true, if_true, if_false, not_true_eq_false, not_false_eq_true, and_true, true_and, and_false, false_and, or_true, true_or, or_false, false_or, reduceIte]; rfl) | rfl) (by first | (simp only [eq_true h1, eq_false h2, if_true, if_true, if_false, not_true_eq_false, not_false_eq_true, and_true, true_and, and_false, false_and, or_true, true_or, or_false, false_or, reduceIte]; done) | (simp only [eq_true h1, eq_false h2, if_true, if_true, if_false, not_true_eq_false, not_false_eq_true, and_true, true_and, and_false, false_and, or_true, true_or, or_false, false_or, reduceIte]; rfl) | rfl)
    · refine e_0 rfl ?_
      exact e_ri rfl rfl (by first | (simp only [eq_false h1, if_true, if_true, if_false, not_true_eq_false, not_false_eq_true, and_true, true_and, and_false, false_and, or_true, true_or, or_false, false_or, reduceIte]; done) | (simp only [eq_false h1, if_true, if_true, if_false, not_true_eq_false, not_false_eq_true, and_true, true_and, and_false, false_and, or_true, true_or, or_false, false_or, reduceIte]; rfl) | rfl) (by first | (simp only [eq_false h1, if_true, if_true, if_false, not_true_eq_false, not_false_eq_true, and_true, true_and, and_false, false_and, or_true, true_or, or_false, false_or, reduceIte]; done) | (simp only [eq_false h1, if_true, if_true, if_false, not_true_eq_false, not_false_eq_true, and_true, true_and, and_false, false_and, or_true, true_or, or_false, false_or, reduceIte]; rfl) | rfl)
  · refine ⟨0, z0F, z0F, Nat.le_of_ble_eq_true rfl, ?_⟩
    refine e_2 rfl rfl ?_
    refine e_s1 rfl rfl rfl (Nat.le_of_ble_eq_true rfl) (sm_isText _) ?_
    refine e_31b rfl (fun h1 => ?_) (fun h1 => ?_)
    · obtain ⟨rfl, hk⟩ := hr h1
      refine e_4 rfl rfl ?_
      refine e_gr rfl hm.1 rfl hm.2.2.2.2.2.2.2.2.2.2.2.2.2.1 ?_
      refine e_2 rfl rfl ?_
      refine e_48q (i := k) rfl hm.2.2.2.2.2.1 (by first | rfl | (simp only [← nI_add, ← pk_mul]; rfl) | (simp only [nI_add, pk_mul, nI_1]; done)) (by omega) (by decide) ?_
      refine e_33 rfl (fun h2 => ?_) (fun h2 => ?_)
      · exact absurd ⟨h1, h2⟩ hb
      · refine e_4 rfl rfl ?_
        refine e_0 rfl ?_
        refine e_v1 rfl (by first | exact hm.1 | assumption | rfl) rfl (by decide) rfl (Nat.le_of_ble_eq_true rfl) (evo (mq_find (by exact hm) (by decide))) ?_
        refine e_42 rfl ?_
        exact e_ri rfl rfl (by first | (simp only [eq_true h1, eq_false h2, if_true, if_true, if_false, not_true_eq_false, not_false_eq_true, and_true, true_and, and_false, false_and, or_true, true_or, or_false, false_or, reduceIte]; done) | (simp only [eq_true h1, eq_false h2, if_true, if_true, if_false, not_true_eq_false, not_false_eq_true, and_true, true_and, and_false, false_and, or_true, true_or, or_false, false_or, reduceIte]; rfl) | rfl) (by first | (simp only [eq_true h1, eq_false h2, if_true, if_true, if_false, not_true_eq_false, not_false_eq_true, and_true, true_and, and_false, false_and, or_true, true_or, or_false, false_or, reduceIte]; done) | (simp only [eq_true h1, eq_false h2, if_true, if_true, if_false, not_true_eq_false, not_false_eq_true, and_true, true_and, and_false, false_and, or_true, true_or, or_false, false_or, reduceIte]; rfl) | rfl)
    · refine e_0 rfl ?_
      exact e_ri rfl rfl (by first | (simp only [eq_false h1, if_true, if_true, if_false, not_true_eq_false, not_false_eq_true, and_true, true_and, and_false, false_and, or_true, true_or, or_false, false_or, reduceIte]; done) | (simp only [eq_false h1, if_true, if_true, if_false, not_true_eq_false, not_false_eq_true, and_true, true_and, and_false, false_and, or_true, true_or, or_false, false_or, reduceIte]; rfl) | rfl) (by first | (simp only [eq_false h1, if_true, if_true, if_false, not_true_eq_false, not_false_eq_true, and_true, true_and, and_false, false_and, or_true, true_or, or_false, false_or, reduceIte]; done) | (simp only [eq_false h1, if_true, if_true, if_false, not_true_eq_false, not_false_eq_true, and_true, true_and, and_false, false_and, or_true, true_or, or_false, false_or, reduceIte]; rfl) | rfl)
theorem mr_sh1 (hm : isMd ν m) {y : Int32} {K : ps_F → Prop} {r' : Option Value} {μ' : ps_M} (hK : K = ps_rt j_X8_ship r' μ') (hk : ps_To (ps_XX L xs) (ps_Ev (ps_XX L xs) (d + 0)) j_X8_ship K (83, [(0, .ref (m)), (1, .int (y))], [], NZ ν m 458)) : ∀ (n i : Nat), i + n = 458 → ps_To (ps_XX L xs) (ps_Ev (ps_XX L xs) (d + 0)) j_X8_ship K (63, [(2, .int (nI i)), (0, .ref (m)), (1, .int (y))], [], NZ ν m i) := by
  subst hK
  intro n
  induction n with
  | zero =>
    intro i hi
    obtain rfl : i = 458 := by omega
    skip
    refine e_2 rfl rfl ?_
    refine e_0 rfl ?_
    refine e_39 rfl (fun h1 => ?_) (fun h1 => ?_)
    · refine e_lv [1, 2] rfl rfl ?_
      show ps_To _ _ _ _ (83, [(0, .ref _), (1, .int _)], [], _)
      exact hk
    · exact absurd (show nI 458 ≤ nI 458 from nI_le (Nat.le_refl _) (by omega)) h1
  | succ n ih =>
    intro i hi
    refine e_2 rfl rfl ?_
    refine e_0 rfl ?_
    refine e_39 rfl (fun h1 => ?_) (fun h1 => ?_)
    · exact absurd (show nI 458 ≤ nI i from h1) (nI_ge (by omega) (by omega))
    · refine e_4 rfl rfl ?_
      refine e_gr rfl hm.1 rfl hm.2.2.2.2.2.2.2.2.2.1 ?_
      refine e_2 rfl rfl ?_
      refine e_0 rfl ?_
      refine e_49q (i := i) rfl hm.2.1 (by first | rfl | (simp only [← nI_add, ← pk_mul]; rfl) | (simp only [nI_add, pk_mul, nI_1]; done)) (by omega) (by decide) ?_
      refine e_8 rfl rfl rfl ?_
      refine e_42 rfl ?_
      refine e_lv [0, 1, 2] rfl rfl ?_
      show ps_To _ _ _ _ (63, [(2, .int _), (0, .ref _), (1, .int _)], [], _)
      rw [NZ_s, nI_1]
      exact ih (i + 1) (by omega)
theorem mr_sh2 (hm : isMd ν m) {y : Int32} {G : Nat} (hG : G ≤ 6) (eG : ps_i ν m 1 = nI G) {ks fs : Nat → Int32} (hk2 : ∀ i, i < G → ps_i ν (m + 8) (2 * i) = ks i) (hf2 : ∀ i, i < G → ps_i ν (m + 8) (2 * i + 1) = fs i) {K : ps_F → Prop} {r' : Option Value} {μ' : ps_M} (hK : K = ps_rt j_X8_ship r' μ') (hk : ps_To (ps_XX L xs) (ps_Ev (ps_XX L xs) (d + 0)) j_X8_ship K (171, [(0, .ref (m)), (1, .int (y))], [], NG ν m ks fs G)) : ∀ (n i : Nat), i + n = G → ps_To (ps_XX L xs) (ps_Ev (ps_XX L xs) (d + 0)) j_X8_ship K (105, [(2, .int (nI i)), (0, .ref (m)), (1, .int (y))], [], NG ν m ks fs i) := by
  subst hK
  intro n
  induction n with
  | zero =>
    intro i hi
    obtain rfl : i = G := by omega
    have ng_off : ∀ {a i j : Nat}, a ≠ m + 1 ∧ a ≠ m + 2 → ps_i (NG ν m ks fs j) a i = ps_i ν a i := fun h => (if_neg (by omega)).trans ((if_neg (by omega)).trans (if_neg (by omega)))
    refine e_2 rfl rfl ?_
    refine e_4 rfl rfl ?_
    refine e_gi rfl hm.1 rfl (by decide) ?_
    rw [show ps_i (NG ν m ks fs _) m 1 = nI _ from (ng_off (by omega)).trans eG]
    refine e_39 rfl (fun h1 => ?_) (fun h1 => ?_)
    · refine e_lv [1, 2] rfl rfl ?_
      show ps_To _ _ _ _ (171, [(0, .ref _), (1, .int _)], [], _)
      exact hk
    · exact absurd (nI_le (Nat.le_refl _) (by omega)) h1
  | succ n ih =>
    intro i hi
    have ng_off : ∀ {a i j : Nat}, a ≠ m + 1 ∧ a ≠ m + 2 → ps_i (NG ν m ks fs j) a i = ps_i ν a i := fun h => (if_neg (by omega)).trans ((if_neg (by omega)).trans (if_neg (by omega)))
    have e1 : ps_i (NG ν m ks fs i) (m + 8) (2 * i) = ks i := (ng_off (by omega)).trans (hk2 i (by omega))
    have e2 : ps_i (NG ν m ks fs i) (m + 8) (2 * i + 1) = fs i := (ng_off (by omega)).trans (hf2 i (by omega))
    refine e_2 rfl rfl ?_
    refine e_4 rfl rfl ?_
    refine e_gi rfl hm.1 rfl (by decide) ?_
    rw [show ps_i (NG ν m ks fs _) m 1 = nI _ from (ng_off (by omega)).trans eG]
    refine e_39 rfl (fun h1 => ?_) (fun h1 => ?_)
    · exact absurd h1 (nI_ge (by omega) (by omega))
    · refine e_4 rfl rfl ?_
      refine e_gr rfl hm.1 rfl hm.2.2.2.2.2.2.2.2.2.2.1 ?_
      refine e_2 rfl rfl ?_
      refine e_4 rfl rfl ?_
      refine e_gr rfl hm.1 rfl hm.2.2.2.2.2.2.2.2.2.2.2.2.2.2.2.2 ?_
      refine e_0 rfl ?_
      refine e_2 rfl rfl ?_
      refine e_11 rfl ?_
      refine e_48q (i := (2 * i)) rfl hm.2.2.2.2.2.2.2.2.1 (by first | rfl | (simp only [← nI_add, ← pk_mul]; rfl) | (simp only [nI_add, pk_mul, nI_1]; done)) (by omega) (by decide) ?_
      refine e_49q (i := i) rfl hm.2.2.1 (by first | rfl | (simp only [← nI_add, ← pk_mul]; rfl) | (simp only [nI_add, pk_mul, nI_1]; done)) (by omega) (by decide) ?_
      refine e_4 rfl rfl ?_
      refine e_gr rfl hm.1 rfl hm.2.2.2.2.2.2.2.2.2.1 ?_
      refine e_0 rfl ?_
      refine e_2 rfl rfl ?_
      refine e_9 rfl ?_
      refine e_4 rfl rfl ?_
      refine e_gr rfl hm.1 rfl hm.2.2.2.2.2.2.2.2.2.2.2.2.2.2.2.2 ?_
      refine e_0 rfl ?_
      refine e_2 rfl rfl ?_
      refine e_11 rfl ?_
      refine e_0 rfl ?_
      refine e_9 rfl ?_
      refine e_48q (i := ((2 * i) + 1)) rfl hm.2.2.2.2.2.2.2.2.1 (by first | rfl | (simp only [← nI_add, ← pk_mul]; rfl) | (simp only [nI_add, pk_mul, nI_1]; done)) (by omega) (by decide) ?_
      refine e_49q (i := (6 + i)) rfl hm.2.1 (by first | rfl | (simp only [← nI_add, ← pk_mul]; rfl) | (simp only [nI_add, pk_mul, nI_1]; done)) (by omega) (by decide) ?_
      refine e_4 rfl rfl ?_
      refine e_gr rfl hm.1 rfl hm.2.2.2.2.2.2.2.2.2.1 ?_
      refine e_0 rfl ?_
      refine e_2 rfl rfl ?_
      refine e_9 rfl ?_
      refine e_4 rfl rfl ?_
      refine e_gr rfl hm.1 rfl hm.2.2.2.2.2.2.2.2.2.2.2.2.2.2.2.2 ?_
      refine e_0 rfl ?_
      refine e_2 rfl rfl ?_
      refine e_11 rfl ?_
      refine e_0 rfl ?_
      refine e_9 rfl ?_
      refine e_48q (i := ((2 * i) + 1)) rfl hm.2.2.2.2.2.2.2.2.1 (by first | rfl | (simp only [← nI_add, ← pk_mul]; rfl) | (simp only [nI_add, pk_mul, nI_1]; done)) (by omega) (by decide) ?_
      refine e_49q (i := (12 + i)) rfl hm.2.1 (by first | rfl | (simp only [← nI_add, ← pk_mul]; rfl) | (simp only [nI_add, pk_mul, nI_1]; done)) (by omega) (by decide) ?_
      refine e_8 rfl rfl rfl ?_
      refine e_42 rfl ?_
      refine e_lv [0, 1, 2] rfl rfl ?_
      show ps_To _ _ _ _ (105, [(2, .int _), (0, .ref _), (1, .int _)], [], _)
      rw [sI_off (by omega), sI_off (by omega), sI_off (by omega), e1, e2, NG_s (by omega), nI_1]
      exact ih (i + 1) (by omega)
theorem mr_sh3 (hm : isMd ν m) {y : Int32} {K : ps_F → Prop} {r' : Option Value} {μ' : ps_M} (hK : K = ps_rt j_X8_ship r' μ') (hk : ps_To (ps_XX L xs) (ps_Ev (ps_XX L xs) (d + 0)) j_X8_ship K (197, [(0, .ref (m)), (1, .int (y))], [], NK ν m 3)) : ∀ (n i : Nat), i + n = 3 → ps_To (ps_XX L xs) (ps_Ev (ps_XX L xs) (d + 0)) j_X8_ship K (173, [(2, .int (nI (i + 1))), (0, .ref (m)), (1, .int (y))], [], NK ν m i) := by
  subst hK
  intro n
  induction n with
  | zero =>
    intro i hi
    obtain rfl : i = 3 := by omega
    skip
    refine e_2 rfl rfl ?_
    refine e_0 rfl ?_
    refine e_39 rfl (fun h1 => ?_) (fun h1 => ?_)
    · refine e_lv [1, 2] rfl rfl ?_
      show ps_To _ _ _ _ (197, [(0, .ref _), (1, .int _)], [], _)
      exact hk
    · exact absurd (show nI 4 ≤ nI 4 from nI_le (Nat.le_refl _) (by omega)) h1
  | succ n ih =>
    intro i hi
    refine e_2 rfl rfl ?_
    refine e_0 rfl ?_
    refine e_39 rfl (fun h1 => ?_) (fun h1 => ?_)
    · exact absurd (show nI 4 ≤ nI (i + 1) from h1) (nI_ge (by omega) (by omega))
    · refine e_4 rfl rfl ?_
      refine e_gr rfl hm.1 rfl hm.2.2.2.2.2.2.2.2.2.1 ?_
      refine e_0 rfl ?_
      refine e_2 rfl rfl ?_
      refine e_11 rfl ?_
      refine e_0 rfl ?_
      refine e_9 rfl ?_
      refine e_0 rfl ?_
      refine e_49q (i := (458 * (i + 1))) rfl hm.2.1 (by rw [Int32.add_zero, show (458 : Int32) = nI 458 from rfl, pk_mul]) (by omega) (by decide) ?_
      refine e_8 rfl rfl rfl ?_
      refine e_42 rfl ?_
      refine e_lv [0, 1, 2] rfl rfl ?_
      show ps_To _ _ _ _ (173, [(2, .int _), (0, .ref _), (1, .int _)], [], _)
      rw [NK_s, nI_1]
      exact ih (i + 1) (by omega)
theorem mr_shtail (hm : isMd ν m) {y : Int32} {G : Nat} (hG : G ≤ 6) (eG : ps_i ν m 22 = nI G) {ks fs : Nat → Int32} (hk2 : ∀ i, i < G → ps_i ν (m + 8) (2 * i) = ks i) (hf2 : ∀ i, i < G → ps_i ν (m + 8) (2 * i + 1) = fs i) {lk ld wt cg : Int32} (e18 : ps_i ν m 18 = lk) (e20 : ps_i ν m 20 = ld) (e17 : ps_i ν m 17 = wt) (e19 : ps_i ν m 19 = cg) : ps_To (ps_XX L xs) (ps_Ev (ps_XX L xs) (d + 0)) j_X8_ship (ps_rt j_X8_ship (some (.int (nI G))) (NSh ν m G lk ld wt cg ks fs)) (37, [(0, .ref m), (1, .int y)], [], ν) := by
  have eG2 : ps_i (ps_sI (ps_sI (NZ (ps_sI (ps_sI (ps_sI ν m 1 (nI G)) m 3 lk) m 4 ld) m 458) (m + 1) 1 wt) (m + 1) 2 cg) m 1 = nI G := by rw [sI_off (by omega), sI_off (by omega), NZ_off (by omega), sI_off (by omega), sI_off (by omega), sI_at]
  have e82 : ∀ i, ps_i (ps_sI (ps_sI (NZ (ps_sI (ps_sI (ps_sI ν m 1 (nI G)) m 3 lk) m 4 ld) m 458) (m + 1) 1 wt) (m + 1) 2 cg) (m + 8) i = ps_i ν (m + 8) i := fun i => by rw [sI_off (by omega), sI_off (by omega), NZ_off (by omega), sI_off (by omega), sI_off (by omega), sI_off (by omega)]
  refine e_4 rfl rfl ?_
  refine e_4 rfl rfl ?_
  refine e_gi rfl hm.1 rfl (by decide) ?_
  rw [eG]
  refine e_pi rfl hm.1 rfl (Or.inl rfl) ?_
  refine e_4 rfl rfl ?_
  refine e_4 rfl rfl ?_
  refine e_gi rfl hm.1 rfl (by decide) ?_
  rw [sI_off (by omega), e18]
  refine e_pi rfl hm.1 rfl (Or.inl rfl) ?_
  refine e_4 rfl rfl ?_
  refine e_4 rfl rfl ?_
  refine e_gi rfl hm.1 rfl (by decide) ?_
  rw [sI_off (by omega), sI_off (by omega), e20]
  refine e_pi rfl hm.1 rfl (Or.inl rfl) ?_
  refine e_0 rfl ?_
  refine e_5 rfl rfl ?_
  rw [← NZ_0 (ν := (ps_sI (ps_sI (ps_sI ν m 1 (nI G)) m 3 lk) m 4 ld)) (m := m)]
  refine mr_sh1 (L := L) (xs := xs) (d := d) (ν := (ps_sI (ps_sI (ps_sI ν m 1 (nI G)) m 3 lk) m 4 ld)) (isMd_sI (isMd_sI (isMd_sI hm))) rfl ?_ 458 0 (by omega)
  refine e_4 rfl rfl ?_
  refine e_gr rfl hm.1 rfl hm.2.2.2.2.2.2.2.2.2.1 ?_
  refine e_0 rfl ?_
  refine e_4 rfl rfl ?_
  refine e_gi rfl hm.1 rfl (by decide) ?_
  rw [NZ_off (by omega), sI_off (by omega), sI_off (by omega), sI_off (by omega), e17]
  refine e_49q (i := 1) rfl hm.2.1 (by first | rfl | (simp only [← nI_add, ← pk_mul]; rfl) | (simp only [nI_add, pk_mul, nI_1]; done)) (by omega) (by decide) ?_
  refine e_4 rfl rfl ?_
  refine e_gr rfl hm.1 rfl hm.2.2.2.2.2.2.2.2.2.1 ?_
  refine e_0 rfl ?_
  refine e_4 rfl rfl ?_
  refine e_gi rfl hm.1 rfl (by decide) ?_
  rw [sI_off (by omega), NZ_off (by omega), sI_off (by omega), sI_off (by omega), sI_off (by omega), e19]
  refine e_49q (i := 2) rfl hm.2.1 (by first | rfl | (simp only [← nI_add, ← pk_mul]; rfl) | (simp only [nI_add, pk_mul, nI_1]; done)) (by omega) (by decide) ?_
  refine e_0 rfl ?_
  refine e_5 rfl rfl ?_
  rw [← NG_0 (ν := (ps_sI (ps_sI (NZ (ps_sI (ps_sI (ps_sI ν m 1 (nI G)) m 3 lk) m 4 ld) m 458) (m + 1) 1 wt) (m + 1) 2 cg)) (m := m) (ks := ks) (fs := fs)]
  refine mr_sh2 (L := L) (xs := xs) (d := d) (ν := (ps_sI (ps_sI (NZ (ps_sI (ps_sI (ps_sI ν m 1 (nI G)) m 3 lk) m 4 ld) m 458) (m + 1) 1 wt) (m + 1) 2 cg)) (isMd_sI (isMd_sI (isMd_NZ (isMd_sI (isMd_sI (isMd_sI hm)))))) hG eG2 (fun i hi => (e82 _).trans (hk2 i hi)) (fun i hi => (e82 _).trans (hf2 i hi)) rfl ?_ G 0 (by omega)
  refine e_0 rfl ?_
  refine e_5 rfl rfl ?_
  rw [← NK_0 (ν := NG (ps_sI (ps_sI (NZ (ps_sI (ps_sI (ps_sI ν m 1 (nI G)) m 3 lk) m 4 ld) m 458) (m + 1) 1 wt) (m + 1) 2 cg) m ks fs G) (m := m)]
  refine mr_sh3 (L := L) (xs := xs) (d := d) (ν := NG (ps_sI (ps_sI (NZ (ps_sI (ps_sI (ps_sI ν m 1 (nI G)) m 3 lk) m 4 ld) m 458) (m + 1) 1 wt) (m + 1) 2 cg) m ks fs G) (isMd_NG (isMd_sI (isMd_sI (isMd_NZ (isMd_sI (isMd_sI (isMd_sI hm))))))) rfl ?_ 3 0 (by omega)
  refine e_4 rfl rfl ?_
  refine e_gi rfl hm.1 rfl (by decide) ?_
  exact e_ri rfl rfl (by rw [NK_off (by omega), NG_off (by omega), eG2]) (rfl)
theorem mq_ship (hm : isMd μ m) {r : Int32} {k : Nat} (hr : textP r → r = nI k ∧ k < 4) {E : Nat} (hE : 0 ≤ ps_i μ (m + 5) k → ps_i μ (m + 5) k = nI E ∧ E ≤ 60) : ∃ (pl : Nat) (ρ' γ' : Nat → Int32), evI (ps_XX L xs) (d + 5) j_X8_ship [.ref m, .int r] (μ) (if ¬ textP r then (-1, μ) else if ¬ 0 ≤ ps_i μ (m + 5) k then (-3, FM μ m 1) else if ¬ fltF (chF0 (fun x => ps_i μ (m + 6) (60 * k + x)) E) E = -9 then (-4, RD μ m (60 * k) pl E ρ' γ') else (nI (gaR (chF0 (fun x => ps_i μ (m + 6) (60 * k + x)) E) E).2.2.1, NSh (RD μ m (60 * k) pl E ρ' γ') m (gaR (chF0 (fun x => ps_i μ (m + 6) (60 * k + x)) E) E).2.2.1 (nI (dvF (chF0 (fun x => ps_i μ (m + 6) (60 * k + x)) E) (skF (chF0 (fun x => ps_i μ (m + 6) (60 * k + x)) E) 60 0 + 3))) (10 * (nI (dvF (chF0 (fun x => ps_i μ (m + 6) (60 * k + x)) E) (skF (chF0 (fun x => ps_i μ (m + 6) (60 * k + x)) E) 60 0 + 5))) + (nI (dvF (chF0 (fun x => ps_i μ (m + 6) (60 * k + x)) E) (skF (chF0 (fun x => ps_i μ (m + 6) (60 * k + x)) E) 60 0 + 6)))) (10 * (nI (dvF (chF0 (fun x => ps_i μ (m + 6) (60 * k + x)) E) (skF (chF0 (fun x => ps_i μ (m + 6) (60 * k + x)) E) 60 0 + 1))) + (nI (dvF (chF0 (fun x => ps_i μ (m + 6) (60 * k + x)) E) (skF (chF0 (fun x => ps_i μ (m + 6) (60 * k + x)) E) 60 0 + 2)))) (nI (dvF (chF0 (fun x => ps_i μ (m + 6) (60 * k + x)) E) (skF (chF0 (fun x => ps_i μ (m + 6) (60 * k + x)) E) 60 0 + 4))) (gaR (chF0 (fun x => ps_i μ (m + 6) (60 * k + x)) E) E).2.2.2.1 (gaR (chF0 (fun x => ps_i μ (m + 6) (60 * k + x)) E) E).2.2.2.2)) := by
  by_cases hb : textP r ∧ 0 ≤ ps_i μ (m + 5) k
  · obtain ⟨rfl, hk⟩ := hr hb.1
    obtain ⟨eE, hE60⟩ := hE hb.2
    obtain ⟨pl, ρ', γ', hf, hv⟩ := mr_faultOf (L := L) (xs := xs) (d := d) hm hk eE hE60
    have hG : (gaR (chF0 (fun x => ps_i μ (m + 6) (60 * k + x)) E) E).2.2.1 ≤ 6 := gaG_6 (b := fun x => ps_i μ (m + 6) (60 * k + x))
    refine ⟨pl, ρ', γ', Nat.le_of_ble_eq_true rfl, ?_⟩
    refine e_2 rfl rfl ?_
    refine e_s1 rfl rfl rfl (Nat.le_of_ble_eq_true rfl) (sm_isText _) ?_
    refine e_31b rfl (fun h1 => ?_) (fun h1 => ?_)
    · refine e_4 rfl rfl ?_
      refine e_gr rfl hm.1 rfl hm.2.2.2.2.2.2.2.2.2.2.2.2.2.1 ?_
      refine e_2 rfl rfl ?_
      refine e_48q (i := k) rfl hm.2.2.2.2.2.1 (by first | rfl | (simp only [← nI_add, ← pk_mul]; rfl) | (simp only [nI_add, pk_mul, nI_1]; done)) (by omega) (by decide) ?_
      refine e_33 rfl (fun h2 => ?_) (fun h2 => ?_)
      · refine e_4 rfl rfl ?_
        refine e_2 rfl rfl ?_
        refine e_v1 rfl (by first | exact hm.1 | assumption | rfl) rfl (by decide) rfl (Nat.le_of_ble_eq_true rfl) (evo hf) ?_
        refine e_0 rfl ?_
        refine e_36 rfl (fun h3 => ?_) (fun h3 => ?_)
        · simp only [eq_true h1, eq_true h2, eq_true h3, if_true, if_true, if_false, not_true_eq_false, not_false_eq_true, and_true, true_and, and_false, false_and, or_true, true_or, or_false, false_or, reduceIte]
          obtain ⟨v17, v18, v19, v20, v22, vg⟩ := hv h3
          refine mr_shtail (L := L) (xs := xs) (ν := RD μ m (60 * k) pl E ρ' γ') (isMd_RD hm) hG ((RD_r (by omega) (by omega)).trans v22) (fun i hi => ?_) (fun i hi => ?_) ((RD_r (by omega) (by omega)).trans v18) ((RD_r (by omega) (by omega)).trans v20) ((RD_r (by omega) (by omega)).trans v17) ((RD_r (by omega) (by omega)).trans v19)
          · rw [RD_8 (by omega), vg]
            unfold gam
            rw [if_pos (by omega), if_pos (by omega), show 2 * i / 2 = i by omega]
          · rw [RD_8 (by omega), vg]
            unfold gam
            rw [if_pos (by omega), if_neg (by omega), show (2 * i + 1) / 2 = i by omega]
        · refine e_0 rfl ?_
          exact e_ri rfl rfl (by first | (simp only [eq_true h1, eq_true h2, eq_false h3, if_true, if_true, if_false, not_true_eq_false, not_false_eq_true, and_true, true_and, and_false, false_and, or_true, true_or, or_false, false_or, reduceIte]; done) | (simp only [eq_true h1, eq_true h2, eq_false h3, if_true, if_true, if_false, not_true_eq_false, not_false_eq_true, and_true, true_and, and_false, false_and, or_true, true_or, or_false, false_or, reduceIte]; rfl) | rfl) (by first | (simp only [eq_true h1, eq_true h2, eq_false h3, if_true, if_true, if_false, not_true_eq_false, not_false_eq_true, and_true, true_and, and_false, false_and, or_true, true_or, or_false, false_or, reduceIte]; done) | (simp only [eq_true h1, eq_true h2, eq_false h3, if_true, if_true, if_false, not_true_eq_false, not_false_eq_true, and_true, true_and, and_false, false_and, or_true, true_or, or_false, false_or, reduceIte]; rfl) | rfl)
      · refine e_4 rfl rfl ?_
        refine e_0 rfl ?_
        refine e_v1 rfl (by first | exact hm.1 | assumption | rfl) rfl (by decide) rfl (Nat.le_of_ble_eq_true rfl) (evo (mq_find (by exact hm) (by decide))) ?_
        exact e_ri rfl rfl (by first | (simp only [eq_true h1, eq_false h2, if_true, if_true, if_false, not_true_eq_false, not_false_eq_true, and_true, true_and, and_false, false_and, or_true, true_or, or_false, false_or, reduceIte]; done) | (simp only [eq_true h1, eq_false h2, if_true, if_true, if_false, not_true_eq_false, not_false_eq_true, and_true, true_and, and_false, false_and, or_true, true_or, or_false, false_or, reduceIte]; rfl) | rfl) (by first | (simp only [eq_true h1, eq_false h2, if_true, if_true, if_false, not_true_eq_false, not_false_eq_true, and_true, true_and, and_false, false_and, or_true, true_or, or_false, false_or, reduceIte]; done) | (simp only [eq_true h1, eq_false h2, if_true, if_true, if_false, not_true_eq_false, not_false_eq_true, and_true, true_and, and_false, false_and, or_true, true_or, or_false, false_or, reduceIte]; rfl) | rfl)
    · refine e_0 rfl ?_
      exact e_ri rfl rfl (by first | (simp only [eq_false h1, if_true, if_true, if_false, not_true_eq_false, not_false_eq_true, and_true, true_and, and_false, false_and, or_true, true_or, or_false, false_or, reduceIte]; done) | (simp only [eq_false h1, if_true, if_true, if_false, not_true_eq_false, not_false_eq_true, and_true, true_and, and_false, false_and, or_true, true_or, or_false, false_or, reduceIte]; rfl) | rfl) (by first | (simp only [eq_false h1, if_true, if_true, if_false, not_true_eq_false, not_false_eq_true, and_true, true_and, and_false, false_and, or_true, true_or, or_false, false_or, reduceIte]; done) | (simp only [eq_false h1, if_true, if_true, if_false, not_true_eq_false, not_false_eq_true, and_true, true_and, and_false, false_and, or_true, true_or, or_false, false_or, reduceIte]; rfl) | rfl)
  · refine ⟨0, z0F, z0F, Nat.le_of_ble_eq_true rfl, ?_⟩
    refine e_2 rfl rfl ?_
    refine e_s1 rfl rfl rfl (Nat.le_of_ble_eq_true rfl) (sm_isText _) ?_
    refine e_31b rfl (fun h1 => ?_) (fun h1 => ?_)
    · obtain ⟨rfl, hk⟩ := hr h1
      refine e_4 rfl rfl ?_
      refine e_gr rfl hm.1 rfl hm.2.2.2.2.2.2.2.2.2.2.2.2.2.1 ?_
      refine e_2 rfl rfl ?_
      refine e_48q (i := k) rfl hm.2.2.2.2.2.1 (by first | rfl | (simp only [← nI_add, ← pk_mul]; rfl) | (simp only [nI_add, pk_mul, nI_1]; done)) (by omega) (by decide) ?_
      refine e_33 rfl (fun h2 => ?_) (fun h2 => ?_)
      · exact absurd ⟨h1, h2⟩ hb
      · refine e_4 rfl rfl ?_
        refine e_0 rfl ?_
        refine e_v1 rfl (by first | exact hm.1 | assumption | rfl) rfl (by decide) rfl (Nat.le_of_ble_eq_true rfl) (evo (mq_find (by exact hm) (by decide))) ?_
        exact e_ri rfl rfl (by first | (simp only [eq_true h1, eq_false h2, if_true, if_true, if_false, not_true_eq_false, not_false_eq_true, and_true, true_and, and_false, false_and, or_true, true_or, or_false, false_or, reduceIte]; done) | (simp only [eq_true h1, eq_false h2, if_true, if_true, if_false, not_true_eq_false, not_false_eq_true, and_true, true_and, and_false, false_and, or_true, true_or, or_false, false_or, reduceIte]; rfl) | rfl) (by first | (simp only [eq_true h1, eq_false h2, if_true, if_true, if_false, not_true_eq_false, not_false_eq_true, and_true, true_and, and_false, false_and, or_true, true_or, or_false, false_or, reduceIte]; done) | (simp only [eq_true h1, eq_false h2, if_true, if_true, if_false, not_true_eq_false, not_false_eq_true, and_true, true_and, and_false, false_and, or_true, true_or, or_false, false_or, reduceIte]; rfl) | rfl)
    · refine e_0 rfl ?_
      exact e_ri rfl rfl (by first | (simp only [eq_false h1, if_true, if_true, if_false, not_true_eq_false, not_false_eq_true, and_true, true_and, and_false, false_and, or_true, true_or, or_false, false_or, reduceIte]; done) | (simp only [eq_false h1, if_true, if_true, if_false, not_true_eq_false, not_false_eq_true, and_true, true_and, and_false, false_and, or_true, true_or, or_false, false_or, reduceIte]; rfl) | rfl) (by first | (simp only [eq_false h1, if_true, if_true, if_false, not_true_eq_false, not_false_eq_true, and_true, true_and, and_false, false_and, or_true, true_or, or_false, false_or, reduceIte]; done) | (simp only [eq_false h1, if_true, if_true, if_false, not_true_eq_false, not_false_eq_true, and_true, true_and, and_false, false_and, or_true, true_or, or_false, false_or, reduceIte]; rfl) | rfl)
end MRS
